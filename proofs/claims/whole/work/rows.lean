section
-- ===== PART A: goes FIRST, ahead of the names: the tables' words, and 'selects' of the private methods out of them =====
/-- a private method of a class that the tables say can be made, by its rows of tables_1 -/
def lw_okq (q : MethodName × Nat) : Prop := (q.1.cls ≠ "java/lang/invoke/MethodHandle" ∧ q.1.cls ≠ "java/lang/invoke/VarHandle") ∧ Cond.instantiable q.1.cls q.2 ∈ tables_1 ∧ Cond.privateMethod q.1 ∈ tables_1 ∧ Cond.instanceMethod q.1 ∈ tables_1
theorem lw_p0 : lw_okq (⟨"BlockClerks", "adopt", "(I)I"⟩, 7) := ⟨⟨by decide +kernel, by decide +kernel⟩, List.mem_of_getElem? (i := 14) (by decide +kernel), List.mem_of_getElem? (i := 195) (by decide +kernel), List.mem_of_getElem? (i := 196) (by decide +kernel)⟩
theorem lw_p1 : lw_okq (⟨"BlockClerks", "remember", "()V"⟩, 7) := ⟨⟨by decide +kernel, by decide +kernel⟩, List.mem_of_getElem? (i := 14) (by decide +kernel), List.mem_of_getElem? (i := 199) (by decide +kernel), List.mem_of_getElem? (i := 200) (by decide +kernel)⟩
theorem lw_p2 : lw_okq (⟨"BlockClerks", "dropOldest", "()V"⟩, 7) := ⟨⟨by decide +kernel, by decide +kernel⟩, List.mem_of_getElem? (i := 14) (by decide +kernel), List.mem_of_getElem? (i := 203) (by decide +kernel), List.mem_of_getElem? (i := 204) (by decide +kernel)⟩
theorem lw_p3 : lw_okq (⟨"BlockClerks", "rehearse", "()I"⟩, 7) := ⟨⟨by decide +kernel, by decide +kernel⟩, List.mem_of_getElem? (i := 14) (by decide +kernel), List.mem_of_getElem? (i := 480) (by decide +kernel), List.mem_of_getElem? (i := 481) (by decide +kernel)⟩
theorem lw_p4 : lw_okq (⟨"BlockClerks", "perform", "()I"⟩, 7) := ⟨⟨by decide +kernel, by decide +kernel⟩, List.mem_of_getElem? (i := 14) (by decide +kernel), List.mem_of_getElem? (i := 571) (by decide +kernel), List.mem_of_getElem? (i := 572) (by decide +kernel)⟩
theorem lw_p5 : lw_okq (⟨"BlockClerksModel", "record", "()V"⟩, 11) := ⟨⟨by decide +kernel, by decide +kernel⟩, List.mem_of_getElem? (i := 583) (by decide +kernel), List.mem_of_getElem? (i := 633) (by decide +kernel), List.mem_of_getElem? (i := 634) (by decide +kernel)⟩
theorem lw_p6 : lw_okq (⟨"BlockClerksModel", "goClerk", "(I)I"⟩, 11) := ⟨⟨by decide +kernel, by decide +kernel⟩, List.mem_of_getElem? (i := 583) (by decide +kernel), List.mem_of_getElem? (i := 637) (by decide +kernel), List.mem_of_getElem? (i := 638) (by decide +kernel)⟩
theorem lw_p7 : lw_okq (⟨"BlockClerksModel", "isClerk", "(I)Z"⟩, 11) := ⟨⟨by decide +kernel, by decide +kernel⟩, List.mem_of_getElem? (i := 583) (by decide +kernel), List.mem_of_getElem? (i := 648) (by decide +kernel), List.mem_of_getElem? (i := 649) (by decide +kernel)⟩
theorem lw_p8 : lw_okq (⟨"BlockClerksModel", "canAsk", "(II)Z"⟩, 11) := ⟨⟨by decide +kernel, by decide +kernel⟩, List.mem_of_getElem? (i := 583) (by decide +kernel), List.mem_of_getElem? (i := 652) (by decide +kernel), List.mem_of_getElem? (i := 653) (by decide +kernel)⟩
theorem lw_p9 : lw_okq (⟨"BlockClerksModel", "holds", "(I)I"⟩, 11) := ⟨⟨by decide +kernel, by decide +kernel⟩, List.mem_of_getElem? (i := 583) (by decide +kernel), List.mem_of_getElem? (i := 656) (by decide +kernel), List.mem_of_getElem? (i := 657) (by decide +kernel)⟩
theorem lw_p10 : lw_okq (⟨"BlockClerksModel", "many", "(I)I"⟩, 11) := ⟨⟨by decide +kernel, by decide +kernel⟩, List.mem_of_getElem? (i := 583) (by decide +kernel), List.mem_of_getElem? (i := 660) (by decide +kernel), List.mem_of_getElem? (i := 661) (by decide +kernel)⟩
theorem lw_p11 : lw_okq (⟨"BlockClerksModel", "goAsk", "(II)I"⟩, 11) := ⟨⟨by decide +kernel, by decide +kernel⟩, List.mem_of_getElem? (i := 583) (by decide +kernel), List.mem_of_getElem? (i := 664) (by decide +kernel), List.mem_of_getElem? (i := 665) (by decide +kernel)⟩
theorem lw_p12 : lw_okq (⟨"BlockClerksModel", "giveOne", "(I)V"⟩, 11) := ⟨⟨by decide +kernel, by decide +kernel⟩, List.mem_of_getElem? (i := 583) (by decide +kernel), List.mem_of_getElem? (i := 668) (by decide +kernel), List.mem_of_getElem? (i := 669) (by decide +kernel)⟩
theorem lw_p13 : lw_okq (⟨"BlockClerksModel", "getBlock", "(I)V"⟩, 11) := ⟨⟨by decide +kernel, by decide +kernel⟩, List.mem_of_getElem? (i := 583) (by decide +kernel), List.mem_of_getElem? (i := 672) (by decide +kernel), List.mem_of_getElem? (i := 673) (by decide +kernel)⟩
theorem lw_p14 : lw_okq (⟨"BlockClerksModel", "blockFrom", "()I"⟩, 11) := ⟨⟨by decide +kernel, by decide +kernel⟩, List.mem_of_getElem? (i := 583) (by decide +kernel), List.mem_of_getElem? (i := 676) (by decide +kernel), List.mem_of_getElem? (i := 677) (by decide +kernel)⟩
theorem lw_p15 : lw_okq (⟨"BlockClerksModel", "lowest", "(I)I"⟩, 11) := ⟨⟨by decide +kernel, by decide +kernel⟩, List.mem_of_getElem? (i := 583) (by decide +kernel), List.mem_of_getElem? (i := 680) (by decide +kernel), List.mem_of_getElem? (i := 681) (by decide +kernel)⟩
def lw_privs_1 : List (MethodName × Nat) := [(⟨"BlockClerks", "adopt", "(I)I"⟩, 7), (⟨"BlockClerks", "remember", "()V"⟩, 7), (⟨"BlockClerks", "dropOldest", "()V"⟩, 7), (⟨"BlockClerks", "rehearse", "()I"⟩, 7), (⟨"BlockClerks", "perform", "()I"⟩, 7), (⟨"BlockClerksModel", "record", "()V"⟩, 11), (⟨"BlockClerksModel", "goClerk", "(I)I"⟩, 11), (⟨"BlockClerksModel", "isClerk", "(I)Z"⟩, 11), (⟨"BlockClerksModel", "canAsk", "(II)Z"⟩, 11), (⟨"BlockClerksModel", "holds", "(I)I"⟩, 11), (⟨"BlockClerksModel", "many", "(I)I"⟩, 11), (⟨"BlockClerksModel", "goAsk", "(II)I"⟩, 11), (⟨"BlockClerksModel", "giveOne", "(I)V"⟩, 11), (⟨"BlockClerksModel", "getBlock", "(I)V"⟩, 11), (⟨"BlockClerksModel", "blockFrom", "()I"⟩, 11), (⟨"BlockClerksModel", "lowest", "(I)I"⟩, 11)]
theorem lw_r1 : ∀ q ∈ lw_privs_1, lw_okq q := List.forall_mem_cons.mpr ⟨lw_p0, List.forall_mem_cons.mpr ⟨lw_p1, List.forall_mem_cons.mpr ⟨lw_p2, List.forall_mem_cons.mpr ⟨lw_p3, List.forall_mem_cons.mpr ⟨lw_p4, List.forall_mem_cons.mpr ⟨lw_p5, List.forall_mem_cons.mpr ⟨lw_p6, List.forall_mem_cons.mpr ⟨lw_p7, List.forall_mem_cons.mpr ⟨lw_p8, List.forall_mem_cons.mpr ⟨lw_p9, List.forall_mem_cons.mpr ⟨lw_p10, List.forall_mem_cons.mpr ⟨lw_p11, List.forall_mem_cons.mpr ⟨lw_p12, List.forall_mem_cons.mpr ⟨lw_p13, List.forall_mem_cons.mpr ⟨lw_p14, List.forall_mem_cons.mpr ⟨lw_p15, fun _ h => absurd h List.not_mem_nil⟩⟩⟩⟩⟩⟩⟩⟩⟩⟩⟩⟩⟩⟩⟩⟩
theorem lw_p16 : lw_okq (⟨"BlockClerksModel", "goForget", "(I)I"⟩, 11) := ⟨⟨by decide +kernel, by decide +kernel⟩, List.mem_of_getElem? (i := 583) (by decide +kernel), List.mem_of_getElem? (i := 688) (by decide +kernel), List.mem_of_getElem? (i := 689) (by decide +kernel)⟩
theorem lw_p17 : lw_okq (⟨"BlockClerksModel", "makeHole", "(II)V"⟩, 11) := ⟨⟨by decide +kernel, by decide +kernel⟩, List.mem_of_getElem? (i := 583) (by decide +kernel), List.mem_of_getElem? (i := 692) (by decide +kernel), List.mem_of_getElem? (i := 693) (by decide +kernel)⟩
theorem lw_p18 : lw_okq (⟨"BlockClerksModel", "goBack", "(I)I"⟩, 11) := ⟨⟨by decide +kernel, by decide +kernel⟩, List.mem_of_getElem? (i := 583) (by decide +kernel), List.mem_of_getElem? (i := 700) (by decide +kernel), List.mem_of_getElem? (i := 701) (by decide +kernel)⟩
theorem lw_p19 : lw_okq (⟨"BlockClerksModel", "goClose", "()I"⟩, 11) := ⟨⟨by decide +kernel, by decide +kernel⟩, List.mem_of_getElem? (i := 583) (by decide +kernel), List.mem_of_getElem? (i := 715) (by decide +kernel), List.mem_of_getElem? (i := 716) (by decide +kernel)⟩
theorem lw_p20 : lw_okq (⟨"BlockClerksModel", "isLate", "(I)Z"⟩, 11) := ⟨⟨by decide +kernel, by decide +kernel⟩, List.mem_of_getElem? (i := 583) (by decide +kernel), List.mem_of_getElem? (i := 727) (by decide +kernel), List.mem_of_getElem? (i := 728) (by decide +kernel)⟩
theorem lw_p21 : lw_okq (⟨"BlockClerksModel", "holesOf", "(II)I"⟩, 11) := ⟨⟨by decide +kernel, by decide +kernel⟩, List.mem_of_getElem? (i := 583) (by decide +kernel), List.mem_of_getElem? (i := 735) (by decide +kernel), List.mem_of_getElem? (i := 736) (by decide +kernel)⟩
theorem lw_p22 : lw_okq (⟨"BlockClerksModel", "rowAt", "(II)I"⟩, 11) := ⟨⟨by decide +kernel, by decide +kernel⟩, List.mem_of_getElem? (i := 583) (by decide +kernel), List.mem_of_getElem? (i := 743) (by decide +kernel), List.mem_of_getElem? (i := 744) (by decide +kernel)⟩
theorem lw_p23 : lw_okq (⟨"BlockClerksModel", "goesOn", "(II)Z"⟩, 11) := ⟨⟨by decide +kernel, by decide +kernel⟩, List.mem_of_getElem? (i := 583) (by decide +kernel), List.mem_of_getElem? (i := 747) (by decide +kernel), List.mem_of_getElem? (i := 748) (by decide +kernel)⟩
theorem lw_p24 : lw_okq (⟨"BlockClerksModel", "endOf", "(II)I"⟩, 11) := ⟨⟨by decide +kernel, by decide +kernel⟩, List.mem_of_getElem? (i := 583) (by decide +kernel), List.mem_of_getElem? (i := 751) (by decide +kernel), List.mem_of_getElem? (i := 752) (by decide +kernel)⟩
theorem lw_p25 : lw_okq (⟨"BlockClerksModel", "lateMany", "()I"⟩, 11) := ⟨⟨by decide +kernel, by decide +kernel⟩, List.mem_of_getElem? (i := 583) (by decide +kernel), List.mem_of_getElem? (i := 771) (by decide +kernel), List.mem_of_getElem? (i := 772) (by decide +kernel)⟩
theorem lw_p26 : lw_okq (⟨"BlockClerksModel", "whole", "()I"⟩, 11) := ⟨⟨by decide +kernel, by decide +kernel⟩, List.mem_of_getElem? (i := 583) (by decide +kernel), List.mem_of_getElem? (i := 775) (by decide +kernel), List.mem_of_getElem? (i := 776) (by decide +kernel)⟩
theorem lw_p27 : lw_okq (⟨"BlockClerksModel", "rows", "()I"⟩, 11) := ⟨⟨by decide +kernel, by decide +kernel⟩, List.mem_of_getElem? (i := 583) (by decide +kernel), List.mem_of_getElem? (i := 779) (by decide +kernel), List.mem_of_getElem? (i := 780) (by decide +kernel)⟩
theorem lw_p28 : lw_okq (⟨"BlockClerksModel", "layAside", "()V"⟩, 11) := ⟨⟨by decide +kernel, by decide +kernel⟩, List.mem_of_getElem? (i := 583) (by decide +kernel), List.mem_of_getElem? (i := 791) (by decide +kernel), List.mem_of_getElem? (i := 792) (by decide +kernel)⟩
theorem lw_p29 : lw_okq (⟨"BlockClerksModel", "layBack", "()V"⟩, 11) := ⟨⟨by decide +kernel, by decide +kernel⟩, List.mem_of_getElem? (i := 583) (by decide +kernel), List.mem_of_getElem? (i := 795) (by decide +kernel), List.mem_of_getElem? (i := 796) (by decide +kernel)⟩
theorem lw_p30 : lw_okq (⟨"BlockClerksModel", "forgets", "(I)I"⟩, 11) := ⟨⟨by decide +kernel, by decide +kernel⟩, List.mem_of_getElem? (i := 583) (by decide +kernel), List.mem_of_getElem? (i := 803) (by decide +kernel), List.mem_of_getElem? (i := 804) (by decide +kernel)⟩
theorem lw_p31 : lw_okq (⟨"BlockClerksModel", "run", "()I"⟩, 11) := ⟨⟨by decide +kernel, by decide +kernel⟩, List.mem_of_getElem? (i := 583) (by decide +kernel), List.mem_of_getElem? (i := 823) (by decide +kernel), List.mem_of_getElem? (i := 824) (by decide +kernel)⟩
def lw_privs_2 : List (MethodName × Nat) := [(⟨"BlockClerksModel", "goForget", "(I)I"⟩, 11), (⟨"BlockClerksModel", "makeHole", "(II)V"⟩, 11), (⟨"BlockClerksModel", "goBack", "(I)I"⟩, 11), (⟨"BlockClerksModel", "goClose", "()I"⟩, 11), (⟨"BlockClerksModel", "isLate", "(I)Z"⟩, 11), (⟨"BlockClerksModel", "holesOf", "(II)I"⟩, 11), (⟨"BlockClerksModel", "rowAt", "(II)I"⟩, 11), (⟨"BlockClerksModel", "goesOn", "(II)Z"⟩, 11), (⟨"BlockClerksModel", "endOf", "(II)I"⟩, 11), (⟨"BlockClerksModel", "lateMany", "()I"⟩, 11), (⟨"BlockClerksModel", "whole", "()I"⟩, 11), (⟨"BlockClerksModel", "rows", "()I"⟩, 11), (⟨"BlockClerksModel", "layAside", "()V"⟩, 11), (⟨"BlockClerksModel", "layBack", "()V"⟩, 11), (⟨"BlockClerksModel", "forgets", "(I)I"⟩, 11), (⟨"BlockClerksModel", "run", "()I"⟩, 11)]
theorem lw_r2 : ∀ q ∈ lw_privs_2, lw_okq q := List.forall_mem_cons.mpr ⟨lw_p16, List.forall_mem_cons.mpr ⟨lw_p17, List.forall_mem_cons.mpr ⟨lw_p18, List.forall_mem_cons.mpr ⟨lw_p19, List.forall_mem_cons.mpr ⟨lw_p20, List.forall_mem_cons.mpr ⟨lw_p21, List.forall_mem_cons.mpr ⟨lw_p22, List.forall_mem_cons.mpr ⟨lw_p23, List.forall_mem_cons.mpr ⟨lw_p24, List.forall_mem_cons.mpr ⟨lw_p25, List.forall_mem_cons.mpr ⟨lw_p26, List.forall_mem_cons.mpr ⟨lw_p27, List.forall_mem_cons.mpr ⟨lw_p28, List.forall_mem_cons.mpr ⟨lw_p29, List.forall_mem_cons.mpr ⟨lw_p30, List.forall_mem_cons.mpr ⟨lw_p31, fun _ h => absurd h List.not_mem_nil⟩⟩⟩⟩⟩⟩⟩⟩⟩⟩⟩⟩⟩⟩⟩⟩
theorem lw_p32 : lw_okq (⟨"BlockClerksModel", "isForm", "()Z"⟩, 11) := ⟨⟨by decide +kernel, by decide +kernel⟩, List.mem_of_getElem? (i := 583) (by decide +kernel), List.mem_of_getElem? (i := 827) (by decide +kernel), List.mem_of_getElem? (i := 828) (by decide +kernel)⟩
theorem lw_p33 : lw_okq (⟨"BlockClerksModel", "wordAt", "()I"⟩, 11) := ⟨⟨by decide +kernel, by decide +kernel⟩, List.mem_of_getElem? (i := 583) (by decide +kernel), List.mem_of_getElem? (i := 831) (by decide +kernel), List.mem_of_getElem? (i := 832) (by decide +kernel)⟩
theorem lw_p34 : lw_okq (⟨"BlockClerksModel", "sees", "(IIIIIII)Z"⟩, 11) := ⟨⟨by decide +kernel, by decide +kernel⟩, List.mem_of_getElem? (i := 583) (by decide +kernel), List.mem_of_getElem? (i := 835) (by decide +kernel), List.mem_of_getElem? (i := 836) (by decide +kernel)⟩
theorem lw_p35 : lw_okq (⟨"BlockClerksModel", "has", "(II)Z"⟩, 11) := ⟨⟨by decide +kernel, by decide +kernel⟩, List.mem_of_getElem? (i := 583) (by decide +kernel), List.mem_of_getElem? (i := 839) (by decide +kernel), List.mem_of_getElem? (i := 840) (by decide +kernel)⟩
theorem lw_p36 : lw_okq (⟨"BlockClerksModel", "kindAt", "()I"⟩, 11) := ⟨⟨by decide +kernel, by decide +kernel⟩, List.mem_of_getElem? (i := 583) (by decide +kernel), List.mem_of_getElem? (i := 846) (by decide +kernel), List.mem_of_getElem? (i := 847) (by decide +kernel)⟩
theorem lw_p37 : lw_okq (⟨"BlockClerksModel", "number", "()I"⟩, 11) := ⟨⟨by decide +kernel, by decide +kernel⟩, List.mem_of_getElem? (i := 583) (by decide +kernel), List.mem_of_getElem? (i := 850) (by decide +kernel), List.mem_of_getElem? (i := 851) (by decide +kernel)⟩
theorem lw_p38 : lw_okq (⟨"BlockClerksModel", "isRange", "()Z"⟩, 11) := ⟨⟨by decide +kernel, by decide +kernel⟩, List.mem_of_getElem? (i := 583) (by decide +kernel), List.mem_of_getElem? (i := 854) (by decide +kernel), List.mem_of_getElem? (i := 855) (by decide +kernel)⟩
theorem lw_p39 : lw_okq (⟨"BlockClerksModel", "isPossible", "()Z"⟩, 11) := ⟨⟨by decide +kernel, by decide +kernel⟩, List.mem_of_getElem? (i := 583) (by decide +kernel), List.mem_of_getElem? (i := 858) (by decide +kernel), List.mem_of_getElem? (i := 859) (by decide +kernel)⟩
theorem lw_p40 : lw_okq (⟨"BlockClerksModel", "goCommand", "()V"⟩, 11) := ⟨⟨by decide +kernel, by decide +kernel⟩, List.mem_of_getElem? (i := 583) (by decide +kernel), List.mem_of_getElem? (i := 862) (by decide +kernel), List.mem_of_getElem? (i := 863) (by decide +kernel)⟩
def lw_privs_3 : List (MethodName × Nat) := [(⟨"BlockClerksModel", "isForm", "()Z"⟩, 11), (⟨"BlockClerksModel", "wordAt", "()I"⟩, 11), (⟨"BlockClerksModel", "sees", "(IIIIIII)Z"⟩, 11), (⟨"BlockClerksModel", "has", "(II)Z"⟩, 11), (⟨"BlockClerksModel", "kindAt", "()I"⟩, 11), (⟨"BlockClerksModel", "number", "()I"⟩, 11), (⟨"BlockClerksModel", "isRange", "()Z"⟩, 11), (⟨"BlockClerksModel", "isPossible", "()Z"⟩, 11), (⟨"BlockClerksModel", "goCommand", "()V"⟩, 11)]
theorem lw_r3 : ∀ q ∈ lw_privs_3, lw_okq q := List.forall_mem_cons.mpr ⟨lw_p32, List.forall_mem_cons.mpr ⟨lw_p33, List.forall_mem_cons.mpr ⟨lw_p34, List.forall_mem_cons.mpr ⟨lw_p35, List.forall_mem_cons.mpr ⟨lw_p36, List.forall_mem_cons.mpr ⟨lw_p37, List.forall_mem_cons.mpr ⟨lw_p38, List.forall_mem_cons.mpr ⟨lw_p39, List.forall_mem_cons.mpr ⟨lw_p40, fun _ h => absurd h List.not_mem_nil⟩⟩⟩⟩⟩⟩⟩⟩⟩
def lw_privs : List (MethodName × Nat) := lw_privs_1 ++ (lw_privs_2 ++ (lw_privs_3))
def lw_tbl : List Cond := k2_sels lw_privs ++ tables_1
theorem lw_privs_ok : ∀ q ∈ lw_privs, lw_okq q := by
  show ∀ q ∈ lw_privs_1 ++ (lw_privs_2 ++ (lw_privs_3)), lw_okq q
  exact List.forall_mem_append.mpr ⟨lw_r1, List.forall_mem_append.mpr ⟨lw_r2, lw_r3⟩⟩
end
section
/-! ===== BEGIN words of one list among another's, by their places ===== -/
theorem goodIn_r {big : List Cond} (ws : List Cond) (ps : List Nat) (hp : ws = ps.filterMap (fun i => big[i]?)) (h : ws.all goodWord = true) : GoodIn big ws := by
  intro w hw
  have h1 := List.all_eq_true.mp h w hw
  rw [hp] at hw
  obtain ⟨i, -, hi⟩ := List.mem_filterMap.mp hw
  have hm : w ∈ big := by first | exact List.mem_of_getElem? hi | exact List.getElem?_mem hi
  exact ⟨hm, good_of_word h1⟩
theorem goodIn_app {big a b : List Cond} (ha : GoodIn big a) (hb : GoodIn big b) : GoodIn big (a ++ b) := fun w h => (List.mem_append.mp h).elim (ha w) (hb w)
theorem goodIn_ca {big a b : List Cond} {c : Cond} (ha : GoodIn big (c :: a)) (hb : GoodIn big b) : GoodIn big (c :: (a ++ b)) := fun w h => (List.mem_cons.mp h).elim (fun e => ha w (List.mem_cons.mpr (Or.inl e))) (fun h => (List.mem_append.mp h).elim (fun h => ha w (List.mem_cons.mpr (Or.inr h))) (hb w))
theorem goodIn_sub {big ws : List Cond} (hm : ∀ w ∈ ws, w ∈ big) (h : ws.all goodWord = true) : GoodIn big ws := fun w hw => ⟨hm w hw, good_of_word (List.all_eq_true.mp h w hw)⟩
/-! ===== END ===== -/

/-! ===== BEGIN printed: names, fields, word lists, decode rows ===== -/
def RX0 : String := "BlockClerks$Clerk"
def TX0 : u_T := fun k => match k with
  | 0 => ("BlockClerks$Clerk", "kind", "I", false)
  | 1 => ("BlockClerks$Clerk", "low", "I", false)
  | 2 => ("BlockClerks$Clerk", "high", "I", false)
  | 3 => ("BlockClerks$Clerk", "mark", "I", false)
  | 4 => ("BlockClerks$Clerk", "given", "I", false)
  | 5 => ("BlockClerks$Clerk", "blocks", "I", false)
  | _ => ("BlockClerks$Clerk", "latest", "I", false)
def tyX0 : Nat → FieldType := fun k => match k with
  | 0 => .int
  | 1 => .int
  | 2 => .int
  | 3 => .int
  | 4 => .int
  | 5 => .int
  | _ => .int
abbrev wsX00 : List Cond := u_ws RX0 TX0 7
theorem nmX0 : ∀ a, a < 7 → ∀ b, b < 7 → a ≠ b → (TX0 a).2.1 ≠ (TX0 b).2.1 := by decide +kernel
theorem tyX0_ok : ∀ k, k < 7 → parseFieldDescriptor (TX0 k).2.2.1 = some (tyX0 k) := by decide +kernel
abbrev cX0_init : ByteArray := prog_2_method_1_code
def yX0_init : MethodName := ⟨RX0, "<init>", "()V"⟩
abbrev cX0_become : ByteArray := prog_2_method_2_code
def yX0_become : MethodName := ⟨RX0, "become", "(LBlockClerks$Clerk;)V"⟩
abbrev cX0_drop : ByteArray := prog_2_method_3_code
def yX0_drop : MethodName := ⟨RX0, "drop", "()V"⟩
abbrev cX0_held : ByteArray := prog_2_method_4_code
def yX0_held : MethodName := ⟨RX0, "held", "()I"⟩
abbrev cX0_lastLost : ByteArray := prog_2_method_5_code
def yX0_lastLost : MethodName := ⟨RX0, "lastLost", "()I"⟩
abbrev cX0_loss : ByteArray := prog_2_method_6_code
def yX0_loss : MethodName := ⟨RX0, "loss", "()I"⟩
abbrev cX0_receive : ByteArray := prog_2_method_7_code
def yX0_receive : MethodName := ⟨RX0, "receive", "(II)V"⟩
abbrev cX0_giveLowest : ByteArray := prog_2_method_8_code
def yX0_giveLowest : MethodName := ⟨RX0, "giveLowest", "(I)I"⟩
def RX1 : String := "BlockClerks$Numbers"
def TX1 : u_T := fun k => match k with
  | 0 => ("BlockClerks$Numbers", "state", "[I", true)
  | 1 => ("BlockClerks$Numbers", "owner", "[I", true)
  | 2 => ("BlockClerks$Numbers", "reason", "[I", true)
  | 3 => ("BlockClerks$Numbers", "turn", "[I", true)
  | 4 => ("BlockClerks$Numbers", "day", "[I", true)
  | 5 => ("BlockClerks$Numbers", "inTurn", "[I", true)
  | 6 => ("BlockClerks$Numbers", "turns", "I", false)
  | _ => ("BlockClerks$Numbers", "firstNew", "I", false)
def tyX1 : Nat → FieldType := fun k => match k with
  | 0 => .array .int
  | 1 => .array .int
  | 2 => .array .int
  | 3 => .array .int
  | 4 => .array .int
  | 5 => .array .int
  | 6 => .int
  | _ => .int
abbrev wsX10 : List Cond := u_ws RX1 TX1 8
theorem nmX1 : ∀ a, a < 8 → ∀ b, b < 8 → a ≠ b → (TX1 a).2.1 ≠ (TX1 b).2.1 := by decide +kernel
theorem tyX1_ok : ∀ k, k < 8 → parseFieldDescriptor (TX1 k).2.2.1 = some (tyX1 k) := by decide +kernel
abbrev cX1_init : ByteArray := prog_3_method_1_code
def yX1_init : MethodName := ⟨RX1, "<init>", "()V"⟩
abbrev cX1_become : ByteArray := prog_3_method_2_code
def yX1_become : MethodName := ⟨RX1, "become", "(LBlockClerks$Numbers;)V"⟩
abbrev cX1_isNumber : ByteArray := prog_3_method_3_code
def yX1_isNumber : MethodName := ⟨RX1, "isNumber", "(I)Z"⟩
abbrev cX1_put : ByteArray := prog_3_method_4_code
def yX1_put : MethodName := ⟨RX1, "put", "(IIIII)V"⟩
abbrev cX1_give : ByteArray := prog_3_method_5_code
def yX1_give : MethodName := ⟨RX1, "give", "(III)V"⟩
abbrev cX1_closeAll : ByteArray := prog_3_method_6_code
def yX1_closeAll : MethodName := ⟨RX1, "closeAll", "()I"⟩
abbrev cX1_lowestFree : ByteArray := prog_3_method_7_code
def yX1_lowestFree : MethodName := ⟨RX1, "lowestFree", "()I"⟩
abbrev cX1_goesOn : ByteArray := prog_3_method_8_code
def yX1_goesOn : MethodName := ⟨RX1, "goesOn", "(I)Z"⟩
abbrev cX1_lastOfRow : ByteArray := prog_3_method_9_code
def yX1_lastOfRow : MethodName := ⟨RX1, "lastOfRow", "(II)I"⟩
abbrev cX1_startsRow : ByteArray := prog_3_method_10_code
def yX1_startsRow : MethodName := ⟨RX1, "startsRow", "(II)Z"⟩
abbrev cX1_rows : ByteArray := prog_3_method_11_code
def yX1_rows : MethodName := ⟨RX1, "rows", "(I)I"⟩
abbrev cX1_startOfRow : ByteArray := prog_3_method_12_code
def yX1_startOfRow : MethodName := ⟨RX1, "startOfRow", "(II)I"⟩
abbrev cX1_tellOfRow : ByteArray := prog_3_method_13_code
def yX1_tellOfRow : MethodName := ⟨RX1, "tellOfRow", "(III)I"⟩
abbrev cX1_tell : ByteArray := prog_3_method_14_code
def yX1_tell : MethodName := ⟨RX1, "tell", "(II)I"⟩
abbrev cX1_tellLateness : ByteArray := prog_3_method_15_code
def yX1_tellLateness : MethodName := ⟨RX1, "tellLateness", "(I)I"⟩
abbrev cX1_lateOnes : ByteArray := prog_3_method_16_code
def yX1_lateOnes : MethodName := ⟨RX1, "lateOnes", "()I"⟩
abbrev cX1_givenIn : ByteArray := prog_3_method_17_code
def yX1_givenIn : MethodName := ⟨RX1, "givenIn", "(I)I"⟩
abbrev cX1_givenWithoutGap : ByteArray := prog_3_method_18_code
def yX1_givenWithoutGap : MethodName := ⟨RX1, "givenWithoutGap", "()I"⟩
abbrev cX1_inState : ByteArray := prog_3_method_19_code
def yX1_inState : MethodName := ⟨RX1, "inState", "(III)I"⟩
abbrev cX1_withReason : ByteArray := prog_3_method_20_code
def yX1_withReason : MethodName := ⟨RX1, "withReason", "(III)I"⟩
abbrev cX1_holesOf : ByteArray := prog_3_method_21_code
def yX1_holesOf : MethodName := ⟨RX1, "holesOf", "(I)I"⟩
abbrev cX1_forgottenOf : ByteArray := prog_3_method_22_code
def yX1_forgottenOf : MethodName := ⟨RX1, "forgottenOf", "(I)I"⟩
def RX2 : String := "BlockClerks$Office"
def TX2 : u_T := fun k => match k with
  | 0 => ("BlockClerks$Office", "numbers", "LBlockClerks$Numbers;", true)
  | 1 => ("BlockClerks$Office", "clerks", "[LBlockClerks$Clerk;", true)
  | 2 => ("BlockClerks$Office", "clerkCount", "I", false)
  | 3 => ("BlockClerks$Office", "settings", "[I", true)
  | _ => ("BlockClerks$Office", "today", "I", false)
def tyX2 : Nat → FieldType := fun k => match k with
  | 0 => .object "BlockClerks$Numbers"
  | 1 => .array (.object "BlockClerks$Clerk")
  | 2 => .int
  | 3 => .array .int
  | _ => .int
abbrev wsX20 : List Cond := u_ws RX2 TX2 5
theorem nmX2 : ∀ a, a < 5 → ∀ b, b < 5 → a ≠ b → (TX2 a).2.1 ≠ (TX2 b).2.1 := by decide +kernel
theorem tyX2_ok : ∀ k, k < 5 → parseFieldDescriptor (TX2 k).2.2.1 = some (tyX2 k) := by decide +kernel
abbrev cX2_init : ByteArray := prog_4_method_1_code
def yX2_init : MethodName := ⟨RX2, "<init>", "()V"⟩
abbrev cX2_become : ByteArray := prog_4_method_2_code
def yX2_become : MethodName := ⟨RX2, "become", "(LBlockClerks$Office;)V"⟩
abbrev cX2_isClerk : ByteArray := prog_4_method_3_code
def yX2_isClerk : MethodName := ⟨RX2, "isClerk", "(I)Z"⟩
abbrev cX2_addClerk : ByteArray := prog_4_method_4_code
def yX2_addClerk : MethodName := ⟨RX2, "addClerk", "(I)I"⟩
abbrev cX2_serve : ByteArray := prog_4_method_5_code
def yX2_serve : MethodName := ⟨RX2, "serve", "(II)I"⟩
abbrev cX2_available : ByteArray := prog_4_method_6_code
def yX2_available : MethodName := ⟨RX2, "available", "(I)I"⟩
abbrev cX2_startOfBlock : ByteArray := prog_4_method_7_code
def yX2_startOfBlock : MethodName := ⟨RX2, "startOfBlock", "()I"⟩
abbrev cX2_handOut : ByteArray := prog_4_method_8_code
def yX2_handOut : MethodName := ⟨RX2, "handOut", "(I)V"⟩
abbrev cX2_letForget : ByteArray := prog_4_method_9_code
def yX2_letForget : MethodName := ⟨RX2, "letForget", "(I)I"⟩
abbrev cX2_takeBack : ByteArray := prog_4_method_10_code
def yX2_takeBack : MethodName := ⟨RX2, "takeBack", "(I)I"⟩
abbrev cX2_cancel : ByteArray := prog_4_method_11_code
def yX2_cancel : MethodName := ⟨RX2, "cancel", "(I)I"⟩
abbrev cX2_endDay : ByteArray := prog_4_method_12_code
def yX2_endDay : MethodName := ⟨RX2, "endDay", "()I"⟩
abbrev cX2_change : ByteArray := prog_4_method_13_code
def yX2_change : MethodName := ⟨RX2, "change", "(II)I"⟩
abbrev cX2_tellOfClerk : ByteArray := prog_4_method_14_code
def yX2_tellOfClerk : MethodName := ⟨RX2, "tellOfClerk", "(II)I"⟩
abbrev cX2_tally : ByteArray := prog_4_method_15_code
def yX2_tally : MethodName := ⟨RX2, "tally", "(I)I"⟩
abbrev cX2_settingAt : ByteArray := prog_4_method_16_code
def yX2_settingAt : MethodName := ⟨RX2, "settingAt", "(I)I"⟩
abbrev cX2_upcoming : ByteArray := prog_4_method_17_code
def yX2_upcoming : MethodName := ⟨RX2, "upcoming", "(I)I"⟩
abbrev cX2_lossOf : ByteArray := prog_4_method_18_code
def yX2_lossOf : MethodName := ⟨RX2, "lossOf", "(I)I"⟩
abbrev cX2_mostForgetful : ByteArray := prog_4_method_19_code
def yX2_mostForgetful : MethodName := ⟨RX2, "mostForgetful", "()I"⟩
def RX3 : String := "BlockClerks$Script"
def TX3 : u_T := fun k => match k with
  | 0 => ("BlockClerks$Script", "signs", "[C", true)
  | 1 => ("BlockClerks$Script", "length", "I", false)
  | 2 => ("BlockClerks$Script", "at", "I", false)
  | 3 => ("BlockClerks$Script", "verb", "I", false)
  | 4 => ("BlockClerks$Script", "first", "I", false)
  | _ => ("BlockClerks$Script", "second", "I", false)
def tyX3 : Nat → FieldType := fun k => match k with
  | 0 => .array .char
  | 1 => .int
  | 2 => .int
  | 3 => .int
  | 4 => .int
  | _ => .int
abbrev wsX30 : List Cond := u_ws RX3 TX3 6
theorem nmX3 : ∀ a, a < 6 → ∀ b, b < 6 → a ≠ b → (TX3 a).2.1 ≠ (TX3 b).2.1 := by decide +kernel
theorem tyX3_ok : ∀ k, k < 6 → parseFieldDescriptor (TX3 k).2.2.1 = some (tyX3 k) := by decide +kernel
abbrev cX3_init : ByteArray := prog_5_method_1_code
def yX3_init : MethodName := ⟨RX3, "<init>", "()V"⟩
abbrev cX3_append : ByteArray := prog_5_method_2_code
def yX3_append : MethodName := ⟨RX3, "append", "(I)I"⟩
abbrev cX3_rewind : ByteArray := prog_5_method_3_code
def yX3_rewind : MethodName := ⟨RX3, "rewind", "()V"⟩
abbrev cX3_readCommand : ByteArray := prog_5_method_4_code
def yX3_readCommand : MethodName := ⟨RX3, "readCommand", "()Z"⟩
abbrev cX3_takeWord : ByteArray := prog_5_method_5_code
def yX3_takeWord : MethodName := ⟨RX3, "takeWord", "(Ljava/lang/String;)Z"⟩
abbrev cX3_takeKind : ByteArray := prog_5_method_6_code
def yX3_takeKind : MethodName := ⟨RX3, "takeKind", "()I"⟩
abbrev cX3_takeNumber : ByteArray := prog_5_method_7_code
def yX3_takeNumber : MethodName := ⟨RX3, "takeNumber", "()I"⟩
abbrev cX3_isDigit : ByteArray := prog_5_method_8_code
def yX3_isDigit : MethodName := ⟨RX3, "isDigit", "(I)Z"⟩
abbrev cX3_signAt : ByteArray := prog_5_method_9_code
def yX3_signAt : MethodName := ⟨RX3, "signAt", "(I)I"⟩
def RX4 : String := "BlockClerks"
def TX4 : u_T := fun k => match k with
  | 0 => ("BlockClerks", "office", "LBlockClerks$Office;", true)
  | 1 => ("BlockClerks", "trial", "LBlockClerks$Office;", true)
  | 2 => ("BlockClerks", "history", "[LBlockClerks$Office;", true)
  | 3 => ("BlockClerks", "kept", "I", false)
  | 4 => ("BlockClerks", "script", "LBlockClerks$Script;", true)
  | 5 => ("BlockClerks", "faultPosition", "I", false)
  | _ => ("BlockClerks", "faultReason", "I", false)
def tyX4 : Nat → FieldType := fun k => match k with
  | 0 => .object "BlockClerks$Office"
  | 1 => .object "BlockClerks$Office"
  | 2 => .array (.object "BlockClerks$Office")
  | 3 => .int
  | 4 => .object "BlockClerks$Script"
  | 5 => .int
  | _ => .int
abbrev wsX40 : List Cond := u_ws RX4 TX4 7
theorem nmX4 : ∀ a, a < 7 → ∀ b, b < 7 → a ≠ b → (TX4 a).2.1 ≠ (TX4 b).2.1 := by decide +kernel
theorem tyX4_ok : ∀ k, k < 7 → parseFieldDescriptor (TX4 k).2.2.1 = some (tyX4 k) := by decide +kernel
abbrev cX4_init : ByteArray := prog_1_method_1_code
def yX4_init : MethodName := ⟨RX4, "<init>", "()V"⟩
abbrev cX4_clerk : ByteArray := prog_1_method_2_code
def yX4_clerk : MethodName := ⟨RX4, "clerk", "(I)I"⟩
abbrev cX4_ask : ByteArray := prog_1_method_3_code
def yX4_ask : MethodName := ⟨RX4, "ask", "(II)I"⟩
abbrev cX4_forget : ByteArray := prog_1_method_4_code
def yX4_forget : MethodName := ⟨RX4, "forget", "(I)I"⟩
abbrev cX4_giveBack : ByteArray := prog_1_method_5_code
def yX4_giveBack : MethodName := ⟨RX4, "giveBack", "(I)I"⟩
abbrev cX4_makeVoid : ByteArray := prog_1_method_6_code
def yX4_makeVoid : MethodName := ⟨RX4, "makeVoid", "(I)I"⟩
abbrev cX4_close : ByteArray := prog_1_method_7_code
def yX4_close : MethodName := ⟨RX4, "close", "()I"⟩
abbrev cX4_set : ByteArray := prog_1_method_8_code
def yX4_set : MethodName := ⟨RX4, "set", "(II)I"⟩
abbrev cX4_numberOf : ByteArray := prog_1_method_9_code
def yX4_numberOf : MethodName := ⟨RX4, "numberOf", "(II)I"⟩
abbrev cX4_clerkOf : ByteArray := prog_1_method_10_code
def yX4_clerkOf : MethodName := ⟨RX4, "clerkOf", "(II)I"⟩
abbrev cX4_holesAt : ByteArray := prog_1_method_11_code
def yX4_holesAt : MethodName := ⟨RX4, "holesAt", "(II)I"⟩
abbrev cX4_freeAt : ByteArray := prog_1_method_12_code
def yX4_freeAt : MethodName := ⟨RX4, "freeAt", "(II)I"⟩
abbrev cX4_turnAt : ByteArray := prog_1_method_13_code
def yX4_turnAt : MethodName := ⟨RX4, "turnAt", "(I)I"⟩
abbrev cX4_among : ByteArray := prog_1_method_14_code
def yX4_among : MethodName := ⟨RX4, "among", "(III)I"⟩
abbrev cX4_count : ByteArray := prog_1_method_15_code
def yX4_count : MethodName := ⟨RX4, "count", "(I)I"⟩
abbrev cX4_next : ByteArray := prog_1_method_16_code
def yX4_next : MethodName := ⟨RX4, "next", "(I)I"⟩
abbrev cX4_cost : ByteArray := prog_1_method_17_code
def yX4_cost : MethodName := ⟨RX4, "cost", "(II)I"⟩
abbrev cX4_worst : ByteArray := prog_1_method_18_code
def yX4_worst : MethodName := ⟨RX4, "worst", "()I"⟩
abbrev cX4_undo : ByteArray := prog_1_method_19_code
def yX4_undo : MethodName := ⟨RX4, "undo", "()I"⟩
abbrev cX4_type : ByteArray := prog_1_method_20_code
def yX4_type : MethodName := ⟨RX4, "type", "(I)I"⟩
abbrev cX4_clearText : ByteArray := prog_1_method_21_code
def yX4_clearText : MethodName := ⟨RX4, "clearText", "()I"⟩
abbrev cX4_fault : ByteArray := prog_1_method_22_code
def yX4_fault : MethodName := ⟨RX4, "fault", "(I)I"⟩
abbrev cX4_play : ByteArray := prog_1_method_23_code
def yX4_play : MethodName := ⟨RX4, "play", "()I"⟩
abbrev cX4_adopt : ByteArray := prog_1_method_24_code
def yX4_adopt : MethodName := ⟨RX4, "adopt", "(I)I"⟩
abbrev cX4_remember : ByteArray := prog_1_method_25_code
def yX4_remember : MethodName := ⟨RX4, "remember", "()V"⟩
abbrev cX4_dropOldest : ByteArray := prog_1_method_26_code
def yX4_dropOldest : MethodName := ⟨RX4, "dropOldest", "()V"⟩
abbrev cX4_rehearse : ByteArray := prog_1_method_27_code
def yX4_rehearse : MethodName := ⟨RX4, "rehearse", "()I"⟩
abbrev cX4_perform : ByteArray := prog_1_method_28_code
def yX4_perform : MethodName := ⟨RX4, "perform", "()I"⟩
abbrev cX4_reasonOf : ByteArray := prog_1_method_29_code
def yX4_reasonOf : MethodName := ⟨RX4, "reasonOf", "(I)I"⟩
abbrev cX4_orNotFound : ByteArray := prog_1_method_30_code
def yX4_orNotFound : MethodName := ⟨RX4, "orNotFound", "(I)I"⟩
def RX5 : String := "BlockClerksModel"
def TX5 : u_T := fun k => match k with
  | 0 => ("BlockClerksModel", "s", "[I", true)
  | 1 => ("BlockClerksModel", "before", "[I", true)
  | 2 => ("BlockClerksModel", "aside", "[I", true)
  | 3 => ("BlockClerksModel", "text", "[I", true)
  | 4 => ("BlockClerksModel", "length", "I", false)
  | 5 => ("BlockClerksModel", "undoMany", "I", false)
  | 6 => ("BlockClerksModel", "at", "I", false)
  | 7 => ("BlockClerksModel", "word", "I", false)
  | 8 => ("BlockClerksModel", "first", "I", false)
  | 9 => ("BlockClerksModel", "second", "I", false)
  | _ => ("BlockClerksModel", "commands", "I", false)
def tyX5 : Nat → FieldType := fun k => match k with
  | 0 => .array .int
  | 1 => .array .int
  | 2 => .array .int
  | 3 => .array .int
  | 4 => .int
  | 5 => .int
  | 6 => .int
  | 7 => .int
  | 8 => .int
  | 9 => .int
  | _ => .int
abbrev wsX50 : List Cond := u_ws RX5 TX5 11
theorem nmX5 : ∀ a, a < 11 → ∀ b, b < 11 → a ≠ b → (TX5 a).2.1 ≠ (TX5 b).2.1 := by decide +kernel
theorem tyX5_ok : ∀ k, k < 11 → parseFieldDescriptor (TX5 k).2.2.1 = some (tyX5 k) := by decide +kernel
abbrev cX5_init : ByteArray := prog_7_method_1_code
def yX5_init : MethodName := ⟨RX5, "<init>", "()V"⟩
abbrev cX5_in : ByteArray := prog_7_method_2_code
def yX5_in : MethodName := ⟨RX5, "in", "(III)Z"⟩
abbrev cX5_record : ByteArray := prog_7_method_3_code
def yX5_record : MethodName := ⟨RX5, "record", "()V"⟩
abbrev cX5_layAside : ByteArray := prog_7_method_4_code
def yX5_layAside : MethodName := ⟨RX5, "layAside", "()V"⟩
abbrev cX5_layBack : ByteArray := prog_7_method_5_code
def yX5_layBack : MethodName := ⟨RX5, "layBack", "()V"⟩
abbrev cX5_n : ByteArray := prog_7_method_6_code
def yX5_n : MethodName := ⟨RX5, "n", "(I)I"⟩
abbrev cX5_c : ByteArray := prog_7_method_7_code
def yX5_c : MethodName := ⟨RX5, "c", "(I)I"⟩
abbrev cX5_isClerk : ByteArray := prog_7_method_8_code
def yX5_isClerk : MethodName := ⟨RX5, "isClerk", "(I)Z"⟩
abbrev cX5_isNumber : ByteArray := prog_7_method_9_code
def yX5_isNumber : MethodName := ⟨RX5, "isNumber", "(I)Z"⟩
abbrev cX5_holds : ByteArray := prog_7_method_10_code
def yX5_holds : MethodName := ⟨RX5, "holds", "(I)I"⟩
abbrev cX5_many : ByteArray := prog_7_method_11_code
def yX5_many : MethodName := ⟨RX5, "many", "(I)I"⟩
abbrev cX5_lowest : ByteArray := prog_7_method_12_code
def yX5_lowest : MethodName := ⟨RX5, "lowest", "(I)I"⟩
abbrev cX5_goClerk : ByteArray := prog_7_method_13_code
def yX5_goClerk : MethodName := ⟨RX5, "goClerk", "(I)I"⟩
abbrev cX5_clerk : ByteArray := prog_7_method_14_code
def yX5_clerk : MethodName := ⟨RX5, "clerk", "(I)I"⟩
abbrev cX5_blockFrom : ByteArray := prog_7_method_15_code
def yX5_blockFrom : MethodName := ⟨RX5, "blockFrom", "()I"⟩
abbrev cX5_getBlock : ByteArray := prog_7_method_16_code
def yX5_getBlock : MethodName := ⟨RX5, "getBlock", "(I)V"⟩
abbrev cX5_giveOne : ByteArray := prog_7_method_17_code
def yX5_giveOne : MethodName := ⟨RX5, "giveOne", "(I)V"⟩
abbrev cX5_canAsk : ByteArray := prog_7_method_18_code
def yX5_canAsk : MethodName := ⟨RX5, "canAsk", "(II)Z"⟩
abbrev cX5_goAsk : ByteArray := prog_7_method_19_code
def yX5_goAsk : MethodName := ⟨RX5, "goAsk", "(II)I"⟩
abbrev cX5_ask : ByteArray := prog_7_method_20_code
def yX5_ask : MethodName := ⟨RX5, "ask", "(II)I"⟩
abbrev cX5_makeHole : ByteArray := prog_7_method_21_code
def yX5_makeHole : MethodName := ⟨RX5, "makeHole", "(II)V"⟩
abbrev cX5_goForget : ByteArray := prog_7_method_22_code
def yX5_goForget : MethodName := ⟨RX5, "goForget", "(I)I"⟩
abbrev cX5_forget : ByteArray := prog_7_method_23_code
def yX5_forget : MethodName := ⟨RX5, "forget", "(I)I"⟩
abbrev cX5_goBack : ByteArray := prog_7_method_24_code
def yX5_goBack : MethodName := ⟨RX5, "goBack", "(I)I"⟩
abbrev cX5_giveBack : ByteArray := prog_7_method_25_code
def yX5_giveBack : MethodName := ⟨RX5, "giveBack", "(I)I"⟩
abbrev cX5_makeVoid : ByteArray := prog_7_method_26_code
def yX5_makeVoid : MethodName := ⟨RX5, "makeVoid", "(I)I"⟩
abbrev cX5_goClose : ByteArray := prog_7_method_27_code
def yX5_goClose : MethodName := ⟨RX5, "goClose", "()I"⟩
abbrev cX5_close : ByteArray := prog_7_method_28_code
def yX5_close : MethodName := ⟨RX5, "close", "()I"⟩
abbrev cX5_set : ByteArray := prog_7_method_29_code
def yX5_set : MethodName := ⟨RX5, "set", "(II)I"⟩
abbrev cX5_isLate : ByteArray := prog_7_method_30_code
def yX5_isLate : MethodName := ⟨RX5, "isLate", "(I)Z"⟩
abbrev cX5_numberOf : ByteArray := prog_7_method_31_code
def yX5_numberOf : MethodName := ⟨RX5, "numberOf", "(II)I"⟩
abbrev cX5_holesOf : ByteArray := prog_7_method_32_code
def yX5_holesOf : MethodName := ⟨RX5, "holesOf", "(II)I"⟩
abbrev cX5_clerkOf : ByteArray := prog_7_method_33_code
def yX5_clerkOf : MethodName := ⟨RX5, "clerkOf", "(II)I"⟩
abbrev cX5_goesOn : ByteArray := prog_7_method_34_code
def yX5_goesOn : MethodName := ⟨RX5, "goesOn", "(II)Z"⟩
abbrev cX5_rowAt : ByteArray := prog_7_method_35_code
def yX5_rowAt : MethodName := ⟨RX5, "rowAt", "(II)I"⟩
abbrev cX5_endOf : ByteArray := prog_7_method_36_code
def yX5_endOf : MethodName := ⟨RX5, "endOf", "(II)I"⟩
abbrev cX5_holesAt : ByteArray := prog_7_method_37_code
def yX5_holesAt : MethodName := ⟨RX5, "holesAt", "(II)I"⟩
abbrev cX5_freeAt : ByteArray := prog_7_method_38_code
def yX5_freeAt : MethodName := ⟨RX5, "freeAt", "(II)I"⟩
abbrev cX5_turnAt : ByteArray := prog_7_method_39_code
def yX5_turnAt : MethodName := ⟨RX5, "turnAt", "(I)I"⟩
abbrev cX5_among : ByteArray := prog_7_method_40_code
def yX5_among : MethodName := ⟨RX5, "among", "(III)I"⟩
abbrev cX5_lateMany : ByteArray := prog_7_method_41_code
def yX5_lateMany : MethodName := ⟨RX5, "lateMany", "()I"⟩
abbrev cX5_rows : ByteArray := prog_7_method_42_code
def yX5_rows : MethodName := ⟨RX5, "rows", "()I"⟩
abbrev cX5_whole : ByteArray := prog_7_method_43_code
def yX5_whole : MethodName := ⟨RX5, "whole", "()I"⟩
abbrev cX5_count : ByteArray := prog_7_method_44_code
def yX5_count : MethodName := ⟨RX5, "count", "(I)I"⟩
abbrev cX5_next : ByteArray := prog_7_method_45_code
def yX5_next : MethodName := ⟨RX5, "next", "(I)I"⟩
abbrev cX5_cost : ByteArray := prog_7_method_46_code
def yX5_cost : MethodName := ⟨RX5, "cost", "(II)I"⟩
abbrev cX5_forgets : ByteArray := prog_7_method_47_code
def yX5_forgets : MethodName := ⟨RX5, "forgets", "(I)I"⟩
abbrev cX5_worst : ByteArray := prog_7_method_48_code
def yX5_worst : MethodName := ⟨RX5, "worst", "()I"⟩
abbrev cX5_undo : ByteArray := prog_7_method_49_code
def yX5_undo : MethodName := ⟨RX5, "undo", "()I"⟩
abbrev cX5_type : ByteArray := prog_7_method_50_code
def yX5_type : MethodName := ⟨RX5, "type", "(I)I"⟩
abbrev cX5_clearText : ByteArray := prog_7_method_51_code
def yX5_clearText : MethodName := ⟨RX5, "clearText", "()I"⟩
abbrev cX5_has : ByteArray := prog_7_method_52_code
def yX5_has : MethodName := ⟨RX5, "has", "(II)Z"⟩
abbrev cX5_one : ByteArray := prog_7_method_53_code
def yX5_one : MethodName := ⟨RX5, "one", "(I)I"⟩
abbrev cX5_sees : ByteArray := prog_7_method_54_code
def yX5_sees : MethodName := ⟨RX5, "sees", "(IIIIIII)Z"⟩
abbrev cX5_number : ByteArray := prog_7_method_55_code
def yX5_number : MethodName := ⟨RX5, "number", "()I"⟩
abbrev cX5_wordAt : ByteArray := prog_7_method_56_code
def yX5_wordAt : MethodName := ⟨RX5, "wordAt", "()I"⟩
abbrev cX5_kindAt : ByteArray := prog_7_method_57_code
def yX5_kindAt : MethodName := ⟨RX5, "kindAt", "()I"⟩
abbrev cX5_isForm : ByteArray := prog_7_method_58_code
def yX5_isForm : MethodName := ⟨RX5, "isForm", "()Z"⟩
abbrev cX5_isRange : ByteArray := prog_7_method_59_code
def yX5_isRange : MethodName := ⟨RX5, "isRange", "()Z"⟩
abbrev cX5_isPossible : ByteArray := prog_7_method_60_code
def yX5_isPossible : MethodName := ⟨RX5, "isPossible", "()Z"⟩
abbrev cX5_goCommand : ByteArray := prog_7_method_61_code
def yX5_goCommand : MethodName := ⟨RX5, "goCommand", "()V"⟩
abbrev cX5_run : ByteArray := prog_7_method_62_code
def yX5_run : MethodName := ⟨RX5, "run", "()I"⟩
abbrev cX5_fault : ByteArray := prog_7_method_63_code
def yX5_fault : MethodName := ⟨RX5, "fault", "(I)I"⟩
abbrev cX5_play : ByteArray := prog_7_method_64_code
def yX5_play : MethodName := ⟨RX5, "play", "()I"⟩
def RJ9 : String := "java/lang/Math"
def TJ9 : u_T := fun k => match k with
  | _ => ("", "", "", false)
def tyJ9 : Nat → FieldType := fun k => match k with
  | _ => .int
abbrev wsJ90 : List Cond := u_ws RJ9 TJ9 0
theorem nmJ9 : ∀ a, a < 0 → ∀ b, b < 0 → a ≠ b → (TJ9 a).2.1 ≠ (TJ9 b).2.1 := by decide +kernel
theorem tyJ9_ok : ∀ k, k < 0 → parseFieldDescriptor (TJ9 k).2.2.1 = some (tyJ9 k) := by decide +kernel
abbrev cJ9_max_7cf53 : ByteArray := prog_8_method_65_code
def yJ9_max_7cf53 : MethodName := ⟨RJ9, "max", "(II)I"⟩
abbrev cJ9_min_7cf53 : ByteArray := prog_8_method_69_code
def yJ9_min_7cf53 : MethodName := ⟨RJ9, "min", "(II)I"⟩
def RJ0 : String := "java/lang/String"
def TJ0 : u_T := fun k => match k with
  | _ => ("", "", "", false)
def tyJ0 : Nat → FieldType := fun k => match k with
  | _ => .int
abbrev wsJ00 : List Cond := u_ws RJ0 TJ0 0
theorem nmJ0 : ∀ a, a < 0 → ∀ b, b < 0 → a ≠ b → (TJ0 a).2.1 ≠ (TJ0 b).2.1 := by decide +kernel
theorem tyJ0_ok : ∀ k, k < 0 → parseFieldDescriptor (TJ0 k).2.2.1 = some (tyJ0 k) := by decide +kernel
abbrev cJ0_length_8abf5 : ByteArray := prog_9_method_54_code
def yJ0_length_8abf5 : MethodName := ⟨RJ0, "length", "()I"⟩
abbrev cJ0_charAt_5068e : ByteArray := prog_9_method_56_code
def yJ0_charAt_5068e : MethodName := ⟨RJ0, "charAt", "(I)C"⟩
abbrev cJ0_coder_7d493 : ByteArray := prog_9_method_152_code
def yJ0_coder_7d493 : MethodName := ⟨RJ0, "coder", "()B"⟩
abbrev cJ0_isLatin1_aae02 : ByteArray := prog_9_method_154_code
def yJ0_isLatin1_aae02 : MethodName := ⟨RJ0, "isLatin1", "()Z"⟩
abbrev cJ0_checkIndex_df160 : ByteArray := prog_9_method_155_code
def yJ0_checkIndex_df160 : MethodName := ⟨RJ0, "checkIndex", "(II)V"⟩
def RJ1 : String := "java/lang/StringLatin1"
def TJ1 : u_T := fun k => match k with
  | _ => ("", "", "", false)
def tyJ1 : Nat → FieldType := fun k => match k with
  | _ => .int
abbrev wsJ10 : List Cond := u_ws RJ1 TJ1 0
theorem nmJ1 : ∀ a, a < 0 → ∀ b, b < 0 → a ≠ b → (TJ1 a).2.1 ≠ (TJ1 b).2.1 := by decide +kernel
theorem tyJ1_ok : ∀ k, k < 0 → parseFieldDescriptor (TJ1 k).2.2.1 = some (tyJ1 k) := by decide +kernel
abbrev cJ1_charAt_3b067 : ByteArray := prog_10_method_2_code
def yJ1_charAt_3b067 : MethodName := ⟨RJ1, "charAt", "([BI)C"⟩
def RJ2 : String := "java/lang/StringUTF16"
def TJ2 : u_T := fun k => match k with
  | _ => ("", "", "", false)
def tyJ2 : Nat → FieldType := fun k => match k with
  | _ => .int
abbrev wsJ20 : List Cond := u_ws RJ2 TJ2 0
theorem nmJ2 : ∀ a, a < 0 → ∀ b, b < 0 → a ≠ b → (TJ2 a).2.1 ≠ (TJ2 b).2.1 := by decide +kernel
theorem tyJ2_ok : ∀ k, k < 0 → parseFieldDescriptor (TJ2 k).2.2.1 = some (tyJ2 k) := by decide +kernel
abbrev cJ2_getChar_3b067 : ByteArray := prog_11_method_5_code
def yJ2_getChar_3b067 : MethodName := ⟨RJ2, "getChar", "([BI)C"⟩
abbrev cJ2_length_9d52b : ByteArray := prog_11_method_6_code
def yJ2_length_9d52b : MethodName := ⟨RJ2, "length", "([B)I"⟩
abbrev cJ2_charAt_3b067 : ByteArray := prog_11_method_83_code
def yJ2_charAt_3b067 : MethodName := ⟨RJ2, "charAt", "([BI)C"⟩
abbrev cJ2_checkIndex_2214a : ByteArray := prog_11_method_91_code
def yJ2_checkIndex_2214a : MethodName := ⟨RJ2, "checkIndex", "(I[B)V"⟩
def RJ10 : String := "java/lang/System"
def TJ10 : u_T := fun k => match k with
  | _ => ("", "", "", false)
def tyJ10 : Nat → FieldType := fun k => match k with
  | _ => .int
abbrev wsJ100 : List Cond := u_ws RJ10 TJ10 0
theorem nmJ10 : ∀ a, a < 0 → ∀ b, b < 0 → a ≠ b → (TJ10 a).2.1 ≠ (TJ10 b).2.1 := by decide +kernel
theorem tyJ10_ok : ∀ k, k < 0 → parseFieldDescriptor (TJ10 k).2.2.1 = some (tyJ10 k) := by decide +kernel
def RJ3 : String := "jdk/internal/util/Preconditions"
def TJ3 : u_T := fun k => match k with
  | _ => ("", "", "", false)
def tyJ3 : Nat → FieldType := fun k => match k with
  | _ => .int
abbrev wsJ30 : List Cond := u_ws RJ3 TJ3 0
theorem nmJ3 : ∀ a, a < 0 → ∀ b, b < 0 → a ≠ b → (TJ3 a).2.1 ≠ (TJ3 b).2.1 := by decide +kernel
theorem tyJ3_ok : ∀ k, k < 0 → parseFieldDescriptor (TJ3 k).2.2.1 = some (tyJ3 k) := by decide +kernel
abbrev cJ3_checkIndex_8e157 : ByteArray := prog_13_method_11_code
def yJ3_checkIndex_8e157 : MethodName := ⟨RJ3, "checkIndex", "(IILjava/util/function/BiFunction;)I"⟩
def RL : String := "BlockClerksLaw"
abbrev cL_law : ByteArray := code
def yL_law : MethodName := ⟨RL, "law", "([I)Z"⟩
def wsX0_init : List Cond := .code yX0_init cX0_init 1 none :: ([.methodLink RX0 3 objectInit, .instanceMethod objectInit, .code objectInit ⟨#[0xb1]⟩ 1 none, .fieldLink RX0 9 "BlockClerks$Clerk" "kind" "I", .fieldLink RX0 15 "BlockClerks$Clerk" "low" "I", .fieldLink RX0 18 "BlockClerks$Clerk" "high" "I", .fieldLink RX0 21 "BlockClerks$Clerk" "mark" "I", .fieldLink RX0 24 "BlockClerks$Clerk" "given" "I", .fieldLink RX0 27 "BlockClerks$Clerk" "blocks" "I", .fieldLink RX0 30 "BlockClerks$Clerk" "latest" "I"] ++ wsX00)
def wsX0_become : List Cond := .code yX0_become cX0_become 2 none :: ([.fieldLink RX0 9 "BlockClerks$Clerk" "kind" "I", .fieldLink RX0 15 "BlockClerks$Clerk" "low" "I", .fieldLink RX0 18 "BlockClerks$Clerk" "high" "I", .fieldLink RX0 21 "BlockClerks$Clerk" "mark" "I", .fieldLink RX0 24 "BlockClerks$Clerk" "given" "I", .fieldLink RX0 27 "BlockClerks$Clerk" "blocks" "I", .fieldLink RX0 30 "BlockClerks$Clerk" "latest" "I"] ++ wsX00)
def wsX0_drop : List Cond := .code yX0_drop cX0_drop 1 none :: ([.fieldLink RX0 15 "BlockClerks$Clerk" "low" "I", .fieldLink RX0 18 "BlockClerks$Clerk" "high" "I", .fieldLink RX0 21 "BlockClerks$Clerk" "mark" "I"] ++ wsX00)
def wsX0_held : List Cond := .code yX0_held cX0_held 1 (some .int) :: ([.fieldLink RX0 18 "BlockClerks$Clerk" "high" "I", .fieldLink RX0 15 "BlockClerks$Clerk" "low" "I"] ++ wsX00)
def wsX0_lastLost : List Cond := .code yX0_lastLost cX0_lastLost 1 (some .int) :: ([.fieldLink RX0 21 "BlockClerks$Clerk" "mark" "I", .fieldLink RX0 18 "BlockClerks$Clerk" "high" "I", .methodLink RX0 33 Lib.Math.min.name, .static Lib.Math.min.name, .initialized "java/lang/Math", .code Lib.Math.min.name Lib.Math.min.code 2 (some .int)] ++ wsX00)
def wsX0_loss : List Cond := .code yX0_loss cX0_loss 1 (some .int) :: ([.fieldLink RX0 15 "BlockClerks$Clerk" "low" "I", .methodLink RX0 43 Lib.Math.max.name, .static Lib.Math.max.name, .initialized "java/lang/Math", .code Lib.Math.max.name Lib.Math.max.code 2 (some .int), .methodLink RX0 39 yX0_lastLost, .instanceMethod yX0_lastLost, .selects RX0 yX0_lastLost yX0_lastLost, .initialized RX0, .code yX0_lastLost cX0_lastLost 1 (some .int), .fieldLink RX0 21 "BlockClerks$Clerk" "mark" "I", .fieldLink RX0 18 "BlockClerks$Clerk" "high" "I", .methodLink RX0 33 Lib.Math.min.name, .static Lib.Math.min.name, .code Lib.Math.min.name Lib.Math.min.code 2 (some .int)] ++ wsX00)
def wsX0_receive : List Cond := .code yX0_receive cX0_receive 3 none :: ([.fieldLink RX0 15 "BlockClerks$Clerk" "low" "I", .fieldLink RX0 18 "BlockClerks$Clerk" "high" "I", .fieldLink RX0 9 "BlockClerks$Clerk" "kind" "I", .fieldLink RX0 21 "BlockClerks$Clerk" "mark" "I", .fieldLink RX0 27 "BlockClerks$Clerk" "blocks" "I"] ++ wsX00)
def wsX0_giveLowest : List Cond := .code yX0_giveLowest cX0_giveLowest 3 (some .int) :: ([.fieldLink RX0 15 "BlockClerks$Clerk" "low" "I", .fieldLink RX0 24 "BlockClerks$Clerk" "given" "I", .fieldLink RX0 30 "BlockClerks$Clerk" "latest" "I", .fieldLink RX0 9 "BlockClerks$Clerk" "kind" "I", .fieldLink RX0 21 "BlockClerks$Clerk" "mark" "I", .fieldLink RX0 18 "BlockClerks$Clerk" "high" "I", .methodLink RX0 33 Lib.Math.min.name, .static Lib.Math.min.name, .initialized "java/lang/Math", .code Lib.Math.min.name Lib.Math.min.code 2 (some .int)] ++ wsX00)
def wsX1_init : List Cond := .code yX1_init cX1_init 2 none :: ([.methodLink RX1 3 objectInit, .instanceMethod objectInit, .code objectInit ⟨#[0xb1]⟩ 1 none, .arrayClass .int, .fieldLink RX1 9 "BlockClerks$Numbers" "state" "[I", .fieldLink RX1 15 "BlockClerks$Numbers" "owner" "[I", .fieldLink RX1 18 "BlockClerks$Numbers" "reason" "[I", .fieldLink RX1 21 "BlockClerks$Numbers" "turn" "[I", .fieldLink RX1 24 "BlockClerks$Numbers" "day" "[I", .fieldLink RX1 27 "BlockClerks$Numbers" "inTurn" "[I", .fieldLink RX1 30 "BlockClerks$Numbers" "turns" "I", .fieldLink RX1 34 "BlockClerks$Numbers" "firstNew" "I"] ++ wsX10)
def wsX1_become : List Cond := .code yX1_become cX1_become 2 none :: ([.fieldLink RX1 9 "BlockClerks$Numbers" "state" "[I", .methodLink RX1 37 arraycopyName, .native arraycopyName, .static arraycopyName, .initialized "java/lang/System", .fieldLink RX1 15 "BlockClerks$Numbers" "owner" "[I", .fieldLink RX1 18 "BlockClerks$Numbers" "reason" "[I", .fieldLink RX1 21 "BlockClerks$Numbers" "turn" "[I", .fieldLink RX1 24 "BlockClerks$Numbers" "day" "[I", .fieldLink RX1 27 "BlockClerks$Numbers" "inTurn" "[I", .fieldLink RX1 30 "BlockClerks$Numbers" "turns" "I", .fieldLink RX1 34 "BlockClerks$Numbers" "firstNew" "I"] ++ wsX10)
def wsX1_isNumber : List Cond := .code yX1_isNumber cX1_isNumber 1 (some .boolean) :: ([])
def wsX1_put : List Cond := .code yX1_put cX1_put 8 none :: ([.methodLink RX1 43 Lib.Math.min.name, .static Lib.Math.min.name, .initialized "java/lang/Math", .code Lib.Math.min.name Lib.Math.min.code 2 (some .int), .methodLink RX1 49 Lib.Math.max.name, .static Lib.Math.max.name, .code Lib.Math.max.name Lib.Math.max.code 2 (some .int), .fieldLink RX1 9 "BlockClerks$Numbers" "state" "[I", .fieldLink RX1 15 "BlockClerks$Numbers" "owner" "[I", .fieldLink RX1 18 "BlockClerks$Numbers" "reason" "[I", .fieldLink RX1 34 "BlockClerks$Numbers" "firstNew" "I"] ++ wsX10)
def wsX1_give : List Cond := .code yX1_give cX1_give 4 none :: ([.fieldLink RX1 30 "BlockClerks$Numbers" "turns" "I", .fieldLink RX1 27 "BlockClerks$Numbers" "inTurn" "[I", .fieldLink RX1 21 "BlockClerks$Numbers" "turn" "[I", .fieldLink RX1 24 "BlockClerks$Numbers" "day" "[I", .methodLink RX1 52 yX1_isNumber, .static yX1_isNumber, .initialized RX1, .code yX1_isNumber cX1_isNumber 1 (some .boolean), .methodLink RX1 56 yX1_put, .instanceMethod yX1_put, .selects RX1 yX1_put yX1_put, .code yX1_put cX1_put 8 none, .methodLink RX1 43 Lib.Math.min.name, .static Lib.Math.min.name, .initialized "java/lang/Math", .code Lib.Math.min.name Lib.Math.min.code 2 (some .int), .methodLink RX1 49 Lib.Math.max.name, .static Lib.Math.max.name, .code Lib.Math.max.name Lib.Math.max.code 2 (some .int), .fieldLink RX1 9 "BlockClerks$Numbers" "state" "[I", .fieldLink RX1 15 "BlockClerks$Numbers" "owner" "[I", .fieldLink RX1 18 "BlockClerks$Numbers" "reason" "[I", .fieldLink RX1 34 "BlockClerks$Numbers" "firstNew" "I"] ++ wsX10)
def wsX1_closeAll : List Cond := .code yX1_closeAll cX1_closeAll 3 (some .int) :: ([.fieldLink RX1 9 "BlockClerks$Numbers" "state" "[I", .fieldLink RX1 15 "BlockClerks$Numbers" "owner" "[I", .methodLink RX1 56 yX1_put, .instanceMethod yX1_put, .selects RX1 yX1_put yX1_put, .initialized RX1, .code yX1_put cX1_put 8 none, .methodLink RX1 43 Lib.Math.min.name, .static Lib.Math.min.name, .initialized "java/lang/Math", .code Lib.Math.min.name Lib.Math.min.code 2 (some .int), .methodLink RX1 49 Lib.Math.max.name, .static Lib.Math.max.name, .code Lib.Math.max.name Lib.Math.max.code 2 (some .int), .fieldLink RX1 18 "BlockClerks$Numbers" "reason" "[I", .fieldLink RX1 34 "BlockClerks$Numbers" "firstNew" "I"] ++ wsX10)
def wsX1_lowestFree : List Cond := .code yX1_lowestFree cX1_lowestFree 2 (some .int) :: ([.fieldLink RX1 34 "BlockClerks$Numbers" "firstNew" "I", .fieldLink RX1 9 "BlockClerks$Numbers" "state" "[I"] ++ wsX10)
def wsX1_goesOn : List Cond := .code yX1_goesOn cX1_goesOn 2 (some .boolean) :: ([.fieldLink RX1 9 "BlockClerks$Numbers" "state" "[I", .fieldLink RX1 15 "BlockClerks$Numbers" "owner" "[I", .fieldLink RX1 18 "BlockClerks$Numbers" "reason" "[I"] ++ wsX10)
def wsX1_lastOfRow : List Cond := .code yX1_lastOfRow cX1_lastOfRow 4 (some .int) :: ([.methodLink RX1 60 yX1_goesOn, .instanceMethod yX1_goesOn, .selects RX1 yX1_goesOn yX1_goesOn, .initialized RX1, .code yX1_goesOn cX1_goesOn 2 (some .boolean), .fieldLink RX1 9 "BlockClerks$Numbers" "state" "[I", .fieldLink RX1 15 "BlockClerks$Numbers" "owner" "[I", .fieldLink RX1 18 "BlockClerks$Numbers" "reason" "[I"] ++ wsX10)
def wsX1_startsRow : List Cond := .code yX1_startsRow cX1_startsRow 3 (some .boolean) :: ([.fieldLink RX1 9 "BlockClerks$Numbers" "state" "[I", .methodLink RX1 52 yX1_isNumber, .static yX1_isNumber, .initialized RX1, .code yX1_isNumber cX1_isNumber 1 (some .boolean), .methodLink RX1 60 yX1_goesOn, .instanceMethod yX1_goesOn, .selects RX1 yX1_goesOn yX1_goesOn, .code yX1_goesOn cX1_goesOn 2 (some .boolean), .fieldLink RX1 15 "BlockClerks$Numbers" "owner" "[I", .fieldLink RX1 18 "BlockClerks$Numbers" "reason" "[I"] ++ wsX10)
def wsX1_rows : List Cond := .code yX1_rows cX1_rows 4 (some .int) :: ([.methodLink RX1 63 yX1_startsRow, .instanceMethod yX1_startsRow, .selects RX1 yX1_startsRow yX1_startsRow, .initialized RX1, .code yX1_startsRow cX1_startsRow 3 (some .boolean), .fieldLink RX1 9 "BlockClerks$Numbers" "state" "[I", .methodLink RX1 52 yX1_isNumber, .static yX1_isNumber, .code yX1_isNumber cX1_isNumber 1 (some .boolean), .methodLink RX1 60 yX1_goesOn, .instanceMethod yX1_goesOn, .selects RX1 yX1_goesOn yX1_goesOn, .code yX1_goesOn cX1_goesOn 2 (some .boolean), .fieldLink RX1 15 "BlockClerks$Numbers" "owner" "[I", .fieldLink RX1 18 "BlockClerks$Numbers" "reason" "[I"] ++ wsX10)
def wsX1_startOfRow : List Cond := .code yX1_startOfRow cX1_startOfRow 5 (some .int) :: ([.methodLink RX1 63 yX1_startsRow, .instanceMethod yX1_startsRow, .selects RX1 yX1_startsRow yX1_startsRow, .initialized RX1, .code yX1_startsRow cX1_startsRow 3 (some .boolean), .fieldLink RX1 9 "BlockClerks$Numbers" "state" "[I", .methodLink RX1 52 yX1_isNumber, .static yX1_isNumber, .code yX1_isNumber cX1_isNumber 1 (some .boolean), .methodLink RX1 60 yX1_goesOn, .instanceMethod yX1_goesOn, .selects RX1 yX1_goesOn yX1_goesOn, .code yX1_goesOn cX1_goesOn 2 (some .boolean), .fieldLink RX1 15 "BlockClerks$Numbers" "owner" "[I", .fieldLink RX1 18 "BlockClerks$Numbers" "reason" "[I"] ++ wsX10)
def wsX4_orNotFound : List Cond := .code yX4_orNotFound cX4_orNotFound 1 (some .int) :: ([])
def wsX1_tellOfRow_r1 : List Cond := [Cond.fieldLink RX1 18 "BlockClerks$Numbers" "reason" "[I", Cond.fieldLink RX1 15 "BlockClerks$Numbers" "owner" "[I", Cond.methodLink RX1 67 yX1_startOfRow, Cond.instanceMethod yX1_startOfRow, Cond.selects RX1 yX1_startOfRow yX1_startOfRow, Cond.initialized RX1, Cond.code yX1_startOfRow cX1_startOfRow 5 (some .int), Cond.methodLink RX1 63 yX1_startsRow, Cond.instanceMethod yX1_startsRow, Cond.selects RX1 yX1_startsRow yX1_startsRow, Cond.code yX1_startsRow cX1_startsRow 3 (some .boolean), Cond.fieldLink RX1 9 "BlockClerks$Numbers" "state" "[I", Cond.methodLink RX1 52 yX1_isNumber, Cond.static yX1_isNumber, Cond.code yX1_isNumber cX1_isNumber 1 (some .boolean), Cond.methodLink RX1 60 yX1_goesOn, Cond.instanceMethod yX1_goesOn, Cond.selects RX1 yX1_goesOn yX1_goesOn, Cond.code yX1_goesOn cX1_goesOn 2 (some .boolean), Cond.methodLink RX1 70 yX1_lastOfRow, Cond.instanceMethod yX1_lastOfRow, Cond.selects RX1 yX1_lastOfRow yX1_lastOfRow, Cond.code yX1_lastOfRow cX1_lastOfRow 4 (some .int), Cond.static yX4_orNotFound]
def wsX1_tellOfRow_r2 : List Cond := [Cond.initialized RX4, Cond.code yX4_orNotFound cX4_orNotFound 1 (some .int)]
def wsX1_tellOfRow : List Cond := .code yX1_tellOfRow cX1_tellOfRow 5 (some .int) :: ((wsX1_tellOfRow_r1 ++ wsX1_tellOfRow_r2) ++ wsX10)
def wsX1_tellLateness : List Cond := .code yX1_tellLateness cX1_tellLateness 3 (some .int) :: ([.fieldLink RX1 21 "BlockClerks$Numbers" "turn" "[I", .fieldLink RX1 27 "BlockClerks$Numbers" "inTurn" "[I", .methodLink RX1 52 yX1_isNumber, .static yX1_isNumber, .initialized RX1, .code yX1_isNumber cX1_isNumber 1 (some .boolean)] ++ wsX10)
def wsX1_tell : List Cond := .code yX1_tell cX1_tell 3 (some .int) :: ([.fieldLink RX1 9 "BlockClerks$Numbers" "state" "[I", .fieldLink RX1 15 "BlockClerks$Numbers" "owner" "[I", .fieldLink RX1 21 "BlockClerks$Numbers" "turn" "[I", .fieldLink RX1 24 "BlockClerks$Numbers" "day" "[I", .fieldLink RX1 18 "BlockClerks$Numbers" "reason" "[I", .methodLink RX1 52 yX1_isNumber, .static yX1_isNumber, .initialized RX1, .code yX1_isNumber cX1_isNumber 1 (some .boolean), .static yX4_orNotFound, .initialized RX4, .code yX4_orNotFound cX4_orNotFound 1 (some .int), .methodLink RX1 77 yX1_tellLateness, .instanceMethod yX1_tellLateness, .selects RX1 yX1_tellLateness yX1_tellLateness, .code yX1_tellLateness cX1_tellLateness 3 (some .int), .fieldLink RX1 27 "BlockClerks$Numbers" "inTurn" "[I"] ++ wsX10)
def wsX1_lateOnes : List Cond := .code yX1_lateOnes cX1_lateOnes 4 (some .int) :: ([.fieldLink RX1 27 "BlockClerks$Numbers" "inTurn" "[I", .fieldLink RX1 30 "BlockClerks$Numbers" "turns" "I", .methodLink RX1 49 Lib.Math.max.name, .static Lib.Math.max.name, .initialized "java/lang/Math", .code Lib.Math.max.name Lib.Math.max.code 2 (some .int)] ++ wsX10)
def wsX1_givenIn : List Cond := .code yX1_givenIn cX1_givenIn 2 (some .int) :: ([.fieldLink RX1 30 "BlockClerks$Numbers" "turns" "I", .fieldLink RX1 27 "BlockClerks$Numbers" "inTurn" "[I"] ++ wsX10)
def wsX1_givenWithoutGap : List Cond := .code yX1_givenWithoutGap cX1_givenWithoutGap 2 (some .int) :: ([.fieldLink RX1 9 "BlockClerks$Numbers" "state" "[I"] ++ wsX10)
def wsX1_inState : List Cond := .code yX1_inState cX1_inState 6 (some .int) :: ([.methodLink RX1 49 Lib.Math.max.name, .static Lib.Math.max.name, .initialized "java/lang/Math", .code Lib.Math.max.name Lib.Math.max.code 2 (some .int), .fieldLink RX1 9 "BlockClerks$Numbers" "state" "[I"] ++ wsX10)
def wsX1_withReason : List Cond := .code yX1_withReason cX1_withReason 6 (some .int) :: ([.methodLink RX1 49 Lib.Math.max.name, .static Lib.Math.max.name, .initialized "java/lang/Math", .code Lib.Math.max.name Lib.Math.max.code 2 (some .int), .fieldLink RX1 18 "BlockClerks$Numbers" "reason" "[I"] ++ wsX10)
def wsX1_holesOf : List Cond := .code yX1_holesOf cX1_holesOf 4 (some .int) :: ([.fieldLink RX1 9 "BlockClerks$Numbers" "state" "[I", .fieldLink RX1 15 "BlockClerks$Numbers" "owner" "[I"] ++ wsX10)
def wsX1_forgottenOf : List Cond := .code yX1_forgottenOf cX1_forgottenOf 4 (some .int) :: ([.fieldLink RX1 18 "BlockClerks$Numbers" "reason" "[I", .fieldLink RX1 15 "BlockClerks$Numbers" "owner" "[I"] ++ wsX10)
def wsX2_init_r1 : List Cond := [Cond.methodLink RX2 3 objectInit, Cond.instanceMethod objectInit, Cond.code objectInit ⟨#[0xb1]⟩ 1 none, Cond.classLink RX2 9 RX1, Cond.instantiable RX1 8, Cond.initialized RX1, Cond.fieldLink RX2 12 "BlockClerks$Office" "numbers" "LBlockClerks$Numbers;", Cond.classLink RX2 18 RX0, Cond.fieldLink RX2 20 "BlockClerks$Office" "clerks" "[LBlockClerks$Clerk;", Cond.fieldLink RX2 24 "BlockClerks$Office" "clerkCount" "I", Cond.arrayClass .int, Cond.fieldLink RX2 28 "BlockClerks$Office" "settings" "[I", Cond.fieldLink RX2 32 "BlockClerks$Office" "today" "I", Cond.instantiable RX0 7, Cond.initialized RX0, Cond.methodLink RX2 11 yX1_init, Cond.instanceMethod yX1_init, Cond.code yX1_init cX1_init 2 none, Cond.methodLink RX1 3 objectInit, Cond.fieldLink RX1 9 "BlockClerks$Numbers" "state" "[I", Cond.fieldLink RX1 15 "BlockClerks$Numbers" "owner" "[I", Cond.fieldLink RX1 18 "BlockClerks$Numbers" "reason" "[I", Cond.fieldLink RX1 21 "BlockClerks$Numbers" "turn" "[I", Cond.fieldLink RX1 24 "BlockClerks$Numbers" "day" "[I"]
def wsX2_init_r2 : List Cond := [Cond.fieldLink RX1 27 "BlockClerks$Numbers" "inTurn" "[I", Cond.fieldLink RX1 30 "BlockClerks$Numbers" "turns" "I", Cond.fieldLink RX1 34 "BlockClerks$Numbers" "firstNew" "I", Cond.instanceMethod yX0_init, Cond.code yX0_init cX0_init 1 none, Cond.methodLink RX0 3 objectInit, Cond.fieldLink RX0 9 "BlockClerks$Clerk" "kind" "I", Cond.fieldLink RX0 15 "BlockClerks$Clerk" "low" "I", Cond.fieldLink RX0 18 "BlockClerks$Clerk" "high" "I", Cond.fieldLink RX0 21 "BlockClerks$Clerk" "mark" "I", Cond.fieldLink RX0 24 "BlockClerks$Clerk" "given" "I", Cond.fieldLink RX0 27 "BlockClerks$Clerk" "blocks" "I", Cond.fieldLink RX0 30 "BlockClerks$Clerk" "latest" "I"]
def wsX2_init : List Cond := .code yX2_init cX2_init 2 none :: ((wsX2_init_r1 ++ wsX2_init_r2) ++ wsX10 ++ wsX20 ++ wsX00)
def wsX2_become_r1 : List Cond := [Cond.fieldLink RX2 12 "BlockClerks$Office" "numbers" "LBlockClerks$Numbers;", Cond.fieldLink RX2 20 "BlockClerks$Office" "clerks" "[LBlockClerks$Clerk;", Cond.fieldLink RX2 24 "BlockClerks$Office" "clerkCount" "I", Cond.fieldLink RX2 28 "BlockClerks$Office" "settings" "[I", Cond.methodLink RX2 43 arraycopyName, Cond.native arraycopyName, Cond.static arraycopyName, Cond.initialized "java/lang/System", Cond.fieldLink RX2 32 "BlockClerks$Office" "today" "I", Cond.methodLink RX2 36 yX1_become, Cond.instanceMethod yX1_become, Cond.selects RX1 yX1_become yX1_become, Cond.initialized RX1, Cond.code yX1_become cX1_become 2 none, Cond.fieldLink RX1 9 "BlockClerks$Numbers" "state" "[I", Cond.methodLink RX1 37 arraycopyName, Cond.fieldLink RX1 15 "BlockClerks$Numbers" "owner" "[I", Cond.fieldLink RX1 18 "BlockClerks$Numbers" "reason" "[I", Cond.fieldLink RX1 21 "BlockClerks$Numbers" "turn" "[I", Cond.fieldLink RX1 24 "BlockClerks$Numbers" "day" "[I", Cond.fieldLink RX1 27 "BlockClerks$Numbers" "inTurn" "[I", Cond.fieldLink RX1 30 "BlockClerks$Numbers" "turns" "I", Cond.fieldLink RX1 34 "BlockClerks$Numbers" "firstNew" "I", Cond.methodLink RX2 40 yX0_become]
def wsX2_become_r2 : List Cond := [Cond.instanceMethod yX0_become, Cond.selects RX0 yX0_become yX0_become, Cond.initialized RX0, Cond.code yX0_become cX0_become 2 none, Cond.fieldLink RX0 9 "BlockClerks$Clerk" "kind" "I", Cond.fieldLink RX0 15 "BlockClerks$Clerk" "low" "I", Cond.fieldLink RX0 18 "BlockClerks$Clerk" "high" "I", Cond.fieldLink RX0 21 "BlockClerks$Clerk" "mark" "I", Cond.fieldLink RX0 24 "BlockClerks$Clerk" "given" "I", Cond.fieldLink RX0 27 "BlockClerks$Clerk" "blocks" "I", Cond.fieldLink RX0 30 "BlockClerks$Clerk" "latest" "I"]
def wsX2_become : List Cond := .code yX2_become cX2_become 3 none :: ((wsX2_become_r1 ++ wsX2_become_r2) ++ wsX20 ++ wsX10 ++ wsX00)
def wsX2_isClerk : List Cond := .code yX2_isClerk cX2_isClerk 2 (some .boolean) :: ([.fieldLink RX2 24 "BlockClerks$Office" "clerkCount" "I", .fieldLink RX2 20 "BlockClerks$Office" "clerks" "[LBlockClerks$Clerk;"] ++ wsX20)
def wsX2_addClerk : List Cond := .code yX2_addClerk cX2_addClerk 2 (some .int) :: ([.fieldLink RX2 24 "BlockClerks$Office" "clerkCount" "I", .fieldLink RX2 20 "BlockClerks$Office" "clerks" "[LBlockClerks$Clerk;", .fieldLink RX2 49 "BlockClerks$Clerk" "kind" "I"] ++ wsX20 ++ wsX00)
def wsX2_available_r1 : List Cond := [Cond.fieldLink RX2 28 "BlockClerks$Office" "settings" "[I", Cond.fieldLink RX2 12 "BlockClerks$Office" "numbers" "LBlockClerks$Numbers;", Cond.fieldLink RX2 20 "BlockClerks$Office" "clerks" "[LBlockClerks$Clerk;", Cond.methodLink RX2 52 yX2_isClerk, Cond.instanceMethod yX2_isClerk, Cond.selects RX2 yX2_isClerk yX2_isClerk, Cond.initialized RX2, Cond.code yX2_isClerk cX2_isClerk 2 (some .boolean), Cond.fieldLink RX2 24 "BlockClerks$Office" "clerkCount" "I", Cond.methodLink RX2 75 yX1_inState, Cond.instanceMethod yX1_inState, Cond.selects RX1 yX1_inState yX1_inState, Cond.initialized RX1, Cond.code yX1_inState cX1_inState 6 (some .int), Cond.methodLink RX1 49 Lib.Math.max.name, Cond.static Lib.Math.max.name, Cond.initialized "java/lang/Math", Cond.code Lib.Math.max.name Lib.Math.max.code 2 (some .int), Cond.fieldLink RX1 9 "BlockClerks$Numbers" "state" "[I", Cond.methodLink RX2 60 yX0_held, Cond.instanceMethod yX0_held, Cond.selects RX0 yX0_held yX0_held, Cond.initialized RX0, Cond.code yX0_held cX0_held 1 (some .int)]
def wsX2_available_r2 : List Cond := [Cond.fieldLink RX0 18 "BlockClerks$Clerk" "high" "I", Cond.fieldLink RX0 15 "BlockClerks$Clerk" "low" "I"]
def wsX2_available : List Cond := .code yX2_available cX2_available 3 (some .int) :: ((wsX2_available_r1 ++ wsX2_available_r2) ++ wsX20 ++ wsX10 ++ wsX00)
def wsX2_startOfBlock : List Cond := .code yX2_startOfBlock cX2_startOfBlock 2 (some .int) :: ([.fieldLink RX2 28 "BlockClerks$Office" "settings" "[I", .fieldLink RX2 12 "BlockClerks$Office" "numbers" "LBlockClerks$Numbers;", .fieldLink RX2 82 "BlockClerks$Numbers" "firstNew" "I", .methodLink RX2 79 yX1_lowestFree, .instanceMethod yX1_lowestFree, .selects RX1 yX1_lowestFree yX1_lowestFree, .initialized RX1, .code yX1_lowestFree cX1_lowestFree 2 (some .int), .fieldLink RX1 34 "BlockClerks$Numbers" "firstNew" "I", .fieldLink RX1 9 "BlockClerks$Numbers" "state" "[I"] ++ wsX20 ++ wsX10)
def wsX2_handOut_r1 : List Cond := [Cond.fieldLink RX2 12 "BlockClerks$Office" "numbers" "LBlockClerks$Numbers;", Cond.fieldLink RX2 28 "BlockClerks$Office" "settings" "[I", Cond.fieldLink RX2 20 "BlockClerks$Office" "clerks" "[LBlockClerks$Clerk;", Cond.methodLink RX2 85 yX2_startOfBlock, Cond.instanceMethod yX2_startOfBlock, Cond.selects RX2 yX2_startOfBlock yX2_startOfBlock, Cond.initialized RX2, Cond.code yX2_startOfBlock cX2_startOfBlock 2 (some .int), Cond.fieldLink RX2 82 "BlockClerks$Numbers" "firstNew" "I", Cond.methodLink RX2 79 yX1_lowestFree, Cond.instanceMethod yX1_lowestFree, Cond.selects RX1 yX1_lowestFree yX1_lowestFree, Cond.initialized RX1, Cond.code yX1_lowestFree cX1_lowestFree 2 (some .int), Cond.fieldLink RX1 34 "BlockClerks$Numbers" "firstNew" "I", Cond.fieldLink RX1 9 "BlockClerks$Numbers" "state" "[I", Cond.methodLink RX2 52 yX2_isClerk, Cond.instanceMethod yX2_isClerk, Cond.selects RX2 yX2_isClerk yX2_isClerk, Cond.code yX2_isClerk cX2_isClerk 2 (some .boolean), Cond.fieldLink RX2 24 "BlockClerks$Office" "clerkCount" "I", Cond.methodLink RX2 88 yX1_isNumber, Cond.static yX1_isNumber, Cond.code yX1_isNumber cX1_isNumber 1 (some .boolean)]
def wsX2_handOut_r2 : List Cond := [Cond.methodLink RX2 91 yX1_lastOfRow, Cond.instanceMethod yX1_lastOfRow, Cond.selects RX1 yX1_lastOfRow yX1_lastOfRow, Cond.code yX1_lastOfRow cX1_lastOfRow 4 (some .int), Cond.methodLink RX1 60 yX1_goesOn, Cond.instanceMethod yX1_goesOn, Cond.selects RX1 yX1_goesOn yX1_goesOn, Cond.code yX1_goesOn cX1_goesOn 2 (some .boolean), Cond.fieldLink RX1 15 "BlockClerks$Numbers" "owner" "[I", Cond.fieldLink RX1 18 "BlockClerks$Numbers" "reason" "[I", Cond.methodLink RX2 95 yX1_put, Cond.instanceMethod yX1_put, Cond.selects RX1 yX1_put yX1_put, Cond.code yX1_put cX1_put 8 none, Cond.methodLink RX1 43 Lib.Math.min.name, Cond.static Lib.Math.min.name, Cond.initialized "java/lang/Math", Cond.code Lib.Math.min.name Lib.Math.min.code 2 (some .int), Cond.methodLink RX1 49 Lib.Math.max.name, Cond.static Lib.Math.max.name, Cond.code Lib.Math.max.name Lib.Math.max.code 2 (some .int), Cond.methodLink RX2 99 yX0_receive, Cond.instanceMethod yX0_receive, Cond.selects RX0 yX0_receive yX0_receive]
def wsX2_handOut_r3 : List Cond := [Cond.initialized RX0, Cond.code yX0_receive cX0_receive 3 none, Cond.fieldLink RX0 15 "BlockClerks$Clerk" "low" "I", Cond.fieldLink RX0 18 "BlockClerks$Clerk" "high" "I", Cond.fieldLink RX0 9 "BlockClerks$Clerk" "kind" "I", Cond.fieldLink RX0 21 "BlockClerks$Clerk" "mark" "I", Cond.fieldLink RX0 27 "BlockClerks$Clerk" "blocks" "I"]
def wsX2_handOut : List Cond := .code yX2_handOut cX2_handOut 4 none :: ((wsX2_handOut_r1 ++ (wsX2_handOut_r2 ++ wsX2_handOut_r3)) ++ wsX20 ++ wsX10 ++ wsX00)
def wsX2_serve_r1 : List Cond := [Cond.fieldLink RX2 20 "BlockClerks$Office" "clerks" "[LBlockClerks$Clerk;", Cond.fieldLink RX2 28 "BlockClerks$Office" "settings" "[I", Cond.fieldLink RX2 12 "BlockClerks$Office" "numbers" "LBlockClerks$Numbers;", Cond.fieldLink RX2 32 "BlockClerks$Office" "today" "I", Cond.methodLink RX2 52 yX2_isClerk, Cond.instanceMethod yX2_isClerk, Cond.selects RX2 yX2_isClerk yX2_isClerk, Cond.initialized RX2, Cond.code yX2_isClerk cX2_isClerk 2 (some .boolean), Cond.fieldLink RX2 24 "BlockClerks$Office" "clerkCount" "I", Cond.methodLink RX2 56 yX2_available, Cond.instanceMethod yX2_available, Cond.selects RX2 yX2_available yX2_available, Cond.code yX2_available cX2_available 3 (some .int), Cond.methodLink RX2 75 yX1_inState, Cond.instanceMethod yX1_inState, Cond.selects RX1 yX1_inState yX1_inState, Cond.initialized RX1, Cond.code yX1_inState cX1_inState 6 (some .int), Cond.methodLink RX1 49 Lib.Math.max.name, Cond.static Lib.Math.max.name, Cond.initialized "java/lang/Math", Cond.code Lib.Math.max.name Lib.Math.max.code 2 (some .int), Cond.fieldLink RX1 9 "BlockClerks$Numbers" "state" "[I"]
def wsX2_serve_r2 : List Cond := [Cond.methodLink RX2 60 yX0_held, Cond.instanceMethod yX0_held, Cond.selects RX0 yX0_held yX0_held, Cond.initialized RX0, Cond.code yX0_held cX0_held 1 (some .int), Cond.fieldLink RX0 18 "BlockClerks$Clerk" "high" "I", Cond.fieldLink RX0 15 "BlockClerks$Clerk" "low" "I", Cond.methodLink RX2 64 yX2_handOut, Cond.instanceMethod yX2_handOut, Cond.selects RX2 yX2_handOut yX2_handOut, Cond.code yX2_handOut cX2_handOut 4 none, Cond.methodLink RX2 85 yX2_startOfBlock, Cond.instanceMethod yX2_startOfBlock, Cond.selects RX2 yX2_startOfBlock yX2_startOfBlock, Cond.code yX2_startOfBlock cX2_startOfBlock 2 (some .int), Cond.fieldLink RX2 82 "BlockClerks$Numbers" "firstNew" "I", Cond.methodLink RX2 79 yX1_lowestFree, Cond.instanceMethod yX1_lowestFree, Cond.selects RX1 yX1_lowestFree yX1_lowestFree, Cond.code yX1_lowestFree cX1_lowestFree 2 (some .int), Cond.fieldLink RX1 34 "BlockClerks$Numbers" "firstNew" "I", Cond.methodLink RX2 88 yX1_isNumber, Cond.static yX1_isNumber, Cond.code yX1_isNumber cX1_isNumber 1 (some .boolean)]
def wsX2_serve_r3 : List Cond := [Cond.methodLink RX2 91 yX1_lastOfRow, Cond.instanceMethod yX1_lastOfRow, Cond.selects RX1 yX1_lastOfRow yX1_lastOfRow, Cond.code yX1_lastOfRow cX1_lastOfRow 4 (some .int), Cond.methodLink RX1 60 yX1_goesOn, Cond.instanceMethod yX1_goesOn, Cond.selects RX1 yX1_goesOn yX1_goesOn, Cond.code yX1_goesOn cX1_goesOn 2 (some .boolean), Cond.fieldLink RX1 15 "BlockClerks$Numbers" "owner" "[I", Cond.fieldLink RX1 18 "BlockClerks$Numbers" "reason" "[I", Cond.methodLink RX2 95 yX1_put, Cond.instanceMethod yX1_put, Cond.selects RX1 yX1_put yX1_put, Cond.code yX1_put cX1_put 8 none, Cond.methodLink RX1 43 Lib.Math.min.name, Cond.static Lib.Math.min.name, Cond.code Lib.Math.min.name Lib.Math.min.code 2 (some .int), Cond.methodLink RX2 99 yX0_receive, Cond.instanceMethod yX0_receive, Cond.selects RX0 yX0_receive yX0_receive, Cond.code yX0_receive cX0_receive 3 none, Cond.fieldLink RX0 9 "BlockClerks$Clerk" "kind" "I", Cond.fieldLink RX0 21 "BlockClerks$Clerk" "mark" "I", Cond.fieldLink RX0 27 "BlockClerks$Clerk" "blocks" "I"]
def wsX2_serve_r4 : List Cond := [Cond.methodLink RX2 68 yX0_giveLowest, Cond.instanceMethod yX0_giveLowest, Cond.selects RX0 yX0_giveLowest yX0_giveLowest, Cond.code yX0_giveLowest cX0_giveLowest 3 (some .int), Cond.fieldLink RX0 24 "BlockClerks$Clerk" "given" "I", Cond.fieldLink RX0 30 "BlockClerks$Clerk" "latest" "I", Cond.methodLink RX0 33 Lib.Math.min.name, Cond.methodLink RX2 71 yX1_give, Cond.instanceMethod yX1_give, Cond.selects RX1 yX1_give yX1_give, Cond.code yX1_give cX1_give 4 none, Cond.fieldLink RX1 30 "BlockClerks$Numbers" "turns" "I", Cond.fieldLink RX1 27 "BlockClerks$Numbers" "inTurn" "[I", Cond.fieldLink RX1 21 "BlockClerks$Numbers" "turn" "[I", Cond.fieldLink RX1 24 "BlockClerks$Numbers" "day" "[I", Cond.methodLink RX1 52 yX1_isNumber, Cond.methodLink RX1 56 yX1_put]
def wsX2_serve : List Cond := .code yX2_serve cX2_serve 5 (some .int) :: ((wsX2_serve_r1 ++ (wsX2_serve_r2 ++ (wsX2_serve_r3 ++ wsX2_serve_r4))) ++ wsX20 ++ wsX10 ++ wsX00)
def wsX2_letForget_r1 : List Cond := [Cond.fieldLink RX2 20 "BlockClerks$Office" "clerks" "[LBlockClerks$Clerk;", Cond.fieldLink RX2 12 "BlockClerks$Office" "numbers" "LBlockClerks$Numbers;", Cond.fieldLink RX2 106 "BlockClerks$Clerk" "low" "I", Cond.methodLink RX2 52 yX2_isClerk, Cond.instanceMethod yX2_isClerk, Cond.selects RX2 yX2_isClerk yX2_isClerk, Cond.initialized RX2, Cond.code yX2_isClerk cX2_isClerk 2 (some .boolean), Cond.fieldLink RX2 24 "BlockClerks$Office" "clerkCount" "I", Cond.methodLink RX2 60 yX0_held, Cond.instanceMethod yX0_held, Cond.selects RX0 yX0_held yX0_held, Cond.initialized RX0, Cond.code yX0_held cX0_held 1 (some .int), Cond.fieldLink RX0 18 "BlockClerks$Clerk" "high" "I", Cond.fieldLink RX0 15 "BlockClerks$Clerk" "low" "I", Cond.methodLink RX2 103 yX0_loss, Cond.instanceMethod yX0_loss, Cond.selects RX0 yX0_loss yX0_loss, Cond.code yX0_loss cX0_loss 1 (some .int), Cond.methodLink RX0 43 Lib.Math.max.name, Cond.static Lib.Math.max.name, Cond.initialized "java/lang/Math", Cond.code Lib.Math.max.name Lib.Math.max.code 2 (some .int)]
def wsX2_letForget_r2 : List Cond := [Cond.methodLink RX0 39 yX0_lastLost, Cond.instanceMethod yX0_lastLost, Cond.selects RX0 yX0_lastLost yX0_lastLost, Cond.code yX0_lastLost cX0_lastLost 1 (some .int), Cond.fieldLink RX0 21 "BlockClerks$Clerk" "mark" "I", Cond.methodLink RX0 33 Lib.Math.min.name, Cond.static Lib.Math.min.name, Cond.code Lib.Math.min.name Lib.Math.min.code 2 (some .int), Cond.methodLink RX2 109 yX0_lastLost, Cond.methodLink RX2 95 yX1_put, Cond.instanceMethod yX1_put, Cond.selects RX1 yX1_put yX1_put, Cond.initialized RX1, Cond.code yX1_put cX1_put 8 none, Cond.methodLink RX1 43 Lib.Math.min.name, Cond.methodLink RX1 49 Lib.Math.max.name, Cond.fieldLink RX1 9 "BlockClerks$Numbers" "state" "[I", Cond.fieldLink RX1 15 "BlockClerks$Numbers" "owner" "[I", Cond.fieldLink RX1 18 "BlockClerks$Numbers" "reason" "[I", Cond.fieldLink RX1 34 "BlockClerks$Numbers" "firstNew" "I"]
def wsX2_letForget : List Cond := .code yX2_letForget cX2_letForget 4 (some .int) :: ((wsX2_letForget_r1 ++ wsX2_letForget_r2) ++ wsX20 ++ wsX00 ++ wsX10)
def wsX2_takeBack_r1 : List Cond := [Cond.fieldLink RX2 20 "BlockClerks$Office" "clerks" "[LBlockClerks$Clerk;", Cond.fieldLink RX2 28 "BlockClerks$Office" "settings" "[I", Cond.fieldLink RX2 12 "BlockClerks$Office" "numbers" "LBlockClerks$Numbers;", Cond.fieldLink RX2 106 "BlockClerks$Clerk" "low" "I", Cond.fieldLink RX2 112 "BlockClerks$Clerk" "high" "I", Cond.methodLink RX2 52 yX2_isClerk, Cond.instanceMethod yX2_isClerk, Cond.selects RX2 yX2_isClerk yX2_isClerk, Cond.initialized RX2, Cond.code yX2_isClerk cX2_isClerk 2 (some .boolean), Cond.fieldLink RX2 24 "BlockClerks$Office" "clerkCount" "I", Cond.methodLink RX2 60 yX0_held, Cond.instanceMethod yX0_held, Cond.selects RX0 yX0_held yX0_held, Cond.initialized RX0, Cond.code yX0_held cX0_held 1 (some .int), Cond.fieldLink RX0 18 "BlockClerks$Clerk" "high" "I", Cond.fieldLink RX0 15 "BlockClerks$Clerk" "low" "I", Cond.methodLink RX2 95 yX1_put, Cond.instanceMethod yX1_put, Cond.selects RX1 yX1_put yX1_put, Cond.initialized RX1, Cond.code yX1_put cX1_put 8 none, Cond.methodLink RX1 43 Lib.Math.min.name]
def wsX2_takeBack_r2 : List Cond := [Cond.static Lib.Math.min.name, Cond.initialized "java/lang/Math", Cond.code Lib.Math.min.name Lib.Math.min.code 2 (some .int), Cond.methodLink RX1 49 Lib.Math.max.name, Cond.static Lib.Math.max.name, Cond.code Lib.Math.max.name Lib.Math.max.code 2 (some .int), Cond.fieldLink RX1 9 "BlockClerks$Numbers" "state" "[I", Cond.fieldLink RX1 15 "BlockClerks$Numbers" "owner" "[I", Cond.fieldLink RX1 18 "BlockClerks$Numbers" "reason" "[I", Cond.fieldLink RX1 34 "BlockClerks$Numbers" "firstNew" "I", Cond.methodLink RX2 115 yX0_drop, Cond.instanceMethod yX0_drop, Cond.selects RX0 yX0_drop yX0_drop, Cond.code yX0_drop cX0_drop 1 none, Cond.fieldLink RX0 21 "BlockClerks$Clerk" "mark" "I"]
def wsX2_takeBack : List Cond := .code yX2_takeBack cX2_takeBack 4 (some .int) :: ((wsX2_takeBack_r1 ++ wsX2_takeBack_r2) ++ wsX20 ++ wsX00 ++ wsX10)
def wsX2_cancel : List Cond := .code yX2_cancel cX2_cancel 2 (some .int) :: ([.fieldLink RX2 12 "BlockClerks$Office" "numbers" "LBlockClerks$Numbers;", .fieldLink RX2 118 "BlockClerks$Numbers" "state" "[I", .fieldLink RX2 121 "BlockClerks$Numbers" "owner" "[I", .methodLink RX2 88 yX1_isNumber, .static yX1_isNumber, .initialized RX1, .code yX1_isNumber cX1_isNumber 1 (some .boolean), .methodLink RX2 95 yX1_put, .instanceMethod yX1_put, .selects RX1 yX1_put yX1_put, .code yX1_put cX1_put 8 none, .methodLink RX1 43 Lib.Math.min.name, .static Lib.Math.min.name, .initialized "java/lang/Math", .code Lib.Math.min.name Lib.Math.min.code 2 (some .int), .methodLink RX1 49 Lib.Math.max.name, .static Lib.Math.max.name, .code Lib.Math.max.name Lib.Math.max.code 2 (some .int), .fieldLink RX1 9 "BlockClerks$Numbers" "state" "[I", .fieldLink RX1 15 "BlockClerks$Numbers" "owner" "[I", .fieldLink RX1 18 "BlockClerks$Numbers" "reason" "[I", .fieldLink RX1 34 "BlockClerks$Numbers" "firstNew" "I"] ++ wsX20 ++ wsX10)
def wsX2_endDay_r1 : List Cond := [Cond.fieldLink RX2 12 "BlockClerks$Office" "numbers" "LBlockClerks$Numbers;", Cond.fieldLink RX2 20 "BlockClerks$Office" "clerks" "[LBlockClerks$Clerk;", Cond.fieldLink RX2 32 "BlockClerks$Office" "today" "I", Cond.methodLink RX2 124 yX1_closeAll, Cond.instanceMethod yX1_closeAll, Cond.selects RX1 yX1_closeAll yX1_closeAll, Cond.initialized RX1, Cond.code yX1_closeAll cX1_closeAll 3 (some .int), Cond.fieldLink RX1 9 "BlockClerks$Numbers" "state" "[I", Cond.fieldLink RX1 15 "BlockClerks$Numbers" "owner" "[I", Cond.methodLink RX1 56 yX1_put, Cond.instanceMethod yX1_put, Cond.selects RX1 yX1_put yX1_put, Cond.code yX1_put cX1_put 8 none, Cond.methodLink RX1 43 Lib.Math.min.name, Cond.static Lib.Math.min.name, Cond.initialized "java/lang/Math", Cond.code Lib.Math.min.name Lib.Math.min.code 2 (some .int), Cond.methodLink RX1 49 Lib.Math.max.name, Cond.static Lib.Math.max.name, Cond.code Lib.Math.max.name Lib.Math.max.code 2 (some .int), Cond.fieldLink RX1 18 "BlockClerks$Numbers" "reason" "[I", Cond.fieldLink RX1 34 "BlockClerks$Numbers" "firstNew" "I", Cond.methodLink RX2 115 yX0_drop]
def wsX2_endDay_r2 : List Cond := [Cond.instanceMethod yX0_drop, Cond.selects RX0 yX0_drop yX0_drop, Cond.initialized RX0, Cond.code yX0_drop cX0_drop 1 none, Cond.fieldLink RX0 15 "BlockClerks$Clerk" "low" "I", Cond.fieldLink RX0 18 "BlockClerks$Clerk" "high" "I", Cond.fieldLink RX0 21 "BlockClerks$Clerk" "mark" "I"]
def wsX2_endDay : List Cond := .code yX2_endDay cX2_endDay 3 (some .int) :: ((wsX2_endDay_r1 ++ wsX2_endDay_r2) ++ wsX20 ++ wsX10 ++ wsX00)
def wsX2_change : List Cond := .code yX2_change cX2_change 4 (some .int) :: ([.fieldLink RX2 127 "BlockClerks$Office" "LEAST" "[I", .fieldLink RX2 130 "BlockClerks$Office" "MOST" "[I", .fieldLink RX2 28 "BlockClerks$Office" "settings" "[I"] ++ wsX20)
def wsX2_tellOfClerk_r1 : List Cond := [Cond.fieldLink RX2 20 "BlockClerks$Office" "clerks" "[LBlockClerks$Clerk;", Cond.fieldLink RX2 49 "BlockClerks$Clerk" "kind" "I", Cond.fieldLink RX2 106 "BlockClerks$Clerk" "low" "I", Cond.fieldLink RX2 112 "BlockClerks$Clerk" "high" "I", Cond.fieldLink RX2 133 "BlockClerks$Clerk" "mark" "I", Cond.fieldLink RX2 136 "BlockClerks$Clerk" "given" "I", Cond.fieldLink RX2 12 "BlockClerks$Office" "numbers" "LBlockClerks$Numbers;", Cond.fieldLink RX2 145 "BlockClerks$Clerk" "blocks" "I", Cond.fieldLink RX2 148 "BlockClerks$Clerk" "latest" "I", Cond.methodLink RX2 52 yX2_isClerk, Cond.instanceMethod yX2_isClerk, Cond.selects RX2 yX2_isClerk yX2_isClerk, Cond.initialized RX2, Cond.code yX2_isClerk cX2_isClerk 2 (some .boolean), Cond.fieldLink RX2 24 "BlockClerks$Office" "clerkCount" "I", Cond.methodLink RX2 60 yX0_held, Cond.instanceMethod yX0_held, Cond.selects RX0 yX0_held yX0_held, Cond.initialized RX0, Cond.code yX0_held cX0_held 1 (some .int), Cond.fieldLink RX0 18 "BlockClerks$Clerk" "high" "I", Cond.fieldLink RX0 15 "BlockClerks$Clerk" "low" "I", Cond.methodLink RX2 139 yX1_holesOf, Cond.instanceMethod yX1_holesOf]
def wsX2_tellOfClerk_r2 : List Cond := [Cond.selects RX1 yX1_holesOf yX1_holesOf, Cond.initialized RX1, Cond.code yX1_holesOf cX1_holesOf 4 (some .int), Cond.fieldLink RX1 9 "BlockClerks$Numbers" "state" "[I", Cond.fieldLink RX1 15 "BlockClerks$Numbers" "owner" "[I", Cond.methodLink RX2 142 yX1_forgottenOf, Cond.instanceMethod yX1_forgottenOf, Cond.selects RX1 yX1_forgottenOf yX1_forgottenOf, Cond.code yX1_forgottenOf cX1_forgottenOf 4 (some .int), Cond.fieldLink RX1 18 "BlockClerks$Numbers" "reason" "[I", Cond.static yX4_orNotFound, Cond.initialized RX4, Cond.code yX4_orNotFound cX4_orNotFound 1 (some .int)]
def wsX2_tellOfClerk : List Cond := .code yX2_tellOfClerk cX2_tellOfClerk 5 (some .int) :: ((wsX2_tellOfClerk_r1 ++ wsX2_tellOfClerk_r2) ++ wsX20 ++ wsX00 ++ wsX10)
def wsX2_settingAt : List Cond := .code yX2_settingAt cX2_settingAt 3 (some .int) :: ([.fieldLink RX2 28 "BlockClerks$Office" "settings" "[I"] ++ wsX20)
def wsX2_tally_r1 : List Cond := [Cond.fieldLink RX2 24 "BlockClerks$Office" "clerkCount" "I", Cond.fieldLink RX2 32 "BlockClerks$Office" "today" "I", Cond.fieldLink RX2 12 "BlockClerks$Office" "numbers" "LBlockClerks$Numbers;", Cond.fieldLink RX2 154 "BlockClerks$Numbers" "turns" "I", Cond.fieldLink RX2 82 "BlockClerks$Numbers" "firstNew" "I", Cond.methodLink RX2 75 yX1_inState, Cond.instanceMethod yX1_inState, Cond.selects RX1 yX1_inState yX1_inState, Cond.initialized RX1, Cond.code yX1_inState cX1_inState 6 (some .int), Cond.methodLink RX1 49 Lib.Math.max.name, Cond.static Lib.Math.max.name, Cond.initialized "java/lang/Math", Cond.code Lib.Math.max.name Lib.Math.max.code 2 (some .int), Cond.fieldLink RX1 9 "BlockClerks$Numbers" "state" "[I", Cond.methodLink RX2 157 yX1_lateOnes, Cond.instanceMethod yX1_lateOnes, Cond.selects RX1 yX1_lateOnes yX1_lateOnes, Cond.code yX1_lateOnes cX1_lateOnes 4 (some .int), Cond.fieldLink RX1 27 "BlockClerks$Numbers" "inTurn" "[I", Cond.fieldLink RX1 30 "BlockClerks$Numbers" "turns" "I", Cond.methodLink RX2 160 yX1_givenWithoutGap, Cond.instanceMethod yX1_givenWithoutGap, Cond.selects RX1 yX1_givenWithoutGap yX1_givenWithoutGap]
def wsX2_tally_r2 : List Cond := [Cond.code yX1_givenWithoutGap cX1_givenWithoutGap 2 (some .int), Cond.methodLink RX2 163 yX1_rows, Cond.instanceMethod yX1_rows, Cond.selects RX1 yX1_rows yX1_rows, Cond.code yX1_rows cX1_rows 4 (some .int), Cond.methodLink RX1 63 yX1_startsRow, Cond.instanceMethod yX1_startsRow, Cond.selects RX1 yX1_startsRow yX1_startsRow, Cond.code yX1_startsRow cX1_startsRow 3 (some .boolean), Cond.methodLink RX1 52 yX1_isNumber, Cond.static yX1_isNumber, Cond.code yX1_isNumber cX1_isNumber 1 (some .boolean), Cond.methodLink RX1 60 yX1_goesOn, Cond.instanceMethod yX1_goesOn, Cond.selects RX1 yX1_goesOn yX1_goesOn, Cond.code yX1_goesOn cX1_goesOn 2 (some .boolean), Cond.fieldLink RX1 15 "BlockClerks$Numbers" "owner" "[I", Cond.fieldLink RX1 18 "BlockClerks$Numbers" "reason" "[I", Cond.methodLink RX2 166 yX2_settingAt, Cond.instanceMethod yX2_settingAt, Cond.selects RX2 yX2_settingAt yX2_settingAt, Cond.initialized RX2, Cond.code yX2_settingAt cX2_settingAt 3 (some .int), Cond.fieldLink RX2 28 "BlockClerks$Office" "settings" "[I"]
def wsX2_tally : List Cond := .code yX2_tally cX2_tally 2 (some .int) :: ((wsX2_tally_r1 ++ wsX2_tally_r2) ++ wsX20 ++ wsX10)
def wsX2_upcoming_r1 : List Cond := [Cond.fieldLink RX2 20 "BlockClerks$Office" "clerks" "[LBlockClerks$Clerk;", Cond.fieldLink RX2 106 "BlockClerks$Clerk" "low" "I", Cond.methodLink RX2 52 yX2_isClerk, Cond.instanceMethod yX2_isClerk, Cond.selects RX2 yX2_isClerk yX2_isClerk, Cond.initialized RX2, Cond.code yX2_isClerk cX2_isClerk 2 (some .boolean), Cond.fieldLink RX2 24 "BlockClerks$Office" "clerkCount" "I", Cond.methodLink RX2 60 yX0_held, Cond.instanceMethod yX0_held, Cond.selects RX0 yX0_held yX0_held, Cond.initialized RX0, Cond.code yX0_held cX0_held 1 (some .int), Cond.fieldLink RX0 18 "BlockClerks$Clerk" "high" "I", Cond.fieldLink RX0 15 "BlockClerks$Clerk" "low" "I", Cond.methodLink RX2 85 yX2_startOfBlock, Cond.instanceMethod yX2_startOfBlock, Cond.selects RX2 yX2_startOfBlock yX2_startOfBlock, Cond.code yX2_startOfBlock cX2_startOfBlock 2 (some .int), Cond.fieldLink RX2 28 "BlockClerks$Office" "settings" "[I", Cond.fieldLink RX2 12 "BlockClerks$Office" "numbers" "LBlockClerks$Numbers;", Cond.fieldLink RX2 82 "BlockClerks$Numbers" "firstNew" "I", Cond.methodLink RX2 79 yX1_lowestFree, Cond.instanceMethod yX1_lowestFree]
def wsX2_upcoming_r2 : List Cond := [Cond.selects RX1 yX1_lowestFree yX1_lowestFree, Cond.initialized RX1, Cond.code yX1_lowestFree cX1_lowestFree 2 (some .int), Cond.fieldLink RX1 34 "BlockClerks$Numbers" "firstNew" "I", Cond.fieldLink RX1 9 "BlockClerks$Numbers" "state" "[I", Cond.methodLink RX2 88 yX1_isNumber, Cond.static yX1_isNumber, Cond.code yX1_isNumber cX1_isNumber 1 (some .boolean)]
def wsX2_upcoming : List Cond := .code yX2_upcoming cX2_upcoming 3 (some .int) :: ((wsX2_upcoming_r1 ++ wsX2_upcoming_r2) ++ wsX20 ++ wsX00 ++ wsX10)
def wsX2_lossOf_r1 : List Cond := [Cond.fieldLink RX2 20 "BlockClerks$Office" "clerks" "[LBlockClerks$Clerk;", Cond.methodLink RX2 52 yX2_isClerk, Cond.instanceMethod yX2_isClerk, Cond.selects RX2 yX2_isClerk yX2_isClerk, Cond.initialized RX2, Cond.code yX2_isClerk cX2_isClerk 2 (some .boolean), Cond.fieldLink RX2 24 "BlockClerks$Office" "clerkCount" "I", Cond.methodLink RX2 103 yX0_loss, Cond.instanceMethod yX0_loss, Cond.selects RX0 yX0_loss yX0_loss, Cond.initialized RX0, Cond.code yX0_loss cX0_loss 1 (some .int), Cond.fieldLink RX0 15 "BlockClerks$Clerk" "low" "I", Cond.methodLink RX0 43 Lib.Math.max.name, Cond.static Lib.Math.max.name, Cond.initialized "java/lang/Math", Cond.code Lib.Math.max.name Lib.Math.max.code 2 (some .int), Cond.methodLink RX0 39 yX0_lastLost, Cond.instanceMethod yX0_lastLost, Cond.selects RX0 yX0_lastLost yX0_lastLost, Cond.code yX0_lastLost cX0_lastLost 1 (some .int), Cond.fieldLink RX0 21 "BlockClerks$Clerk" "mark" "I", Cond.fieldLink RX0 18 "BlockClerks$Clerk" "high" "I", Cond.methodLink RX0 33 Lib.Math.min.name]
def wsX2_lossOf_r2 : List Cond := [Cond.static Lib.Math.min.name, Cond.code Lib.Math.min.name Lib.Math.min.code 2 (some .int)]
def wsX2_lossOf : List Cond := .code yX2_lossOf cX2_lossOf 2 (some .int) :: ((wsX2_lossOf_r1 ++ wsX2_lossOf_r2) ++ wsX20 ++ wsX00)
def wsX2_mostForgetful : List Cond := .code yX2_mostForgetful cX2_mostForgetful 4 (some .int) :: ([.fieldLink RX2 20 "BlockClerks$Office" "clerks" "[LBlockClerks$Clerk;", .fieldLink RX2 24 "BlockClerks$Office" "clerkCount" "I", .methodLink RX2 103 yX0_loss, .instanceMethod yX0_loss, .selects RX0 yX0_loss yX0_loss, .initialized RX0, .code yX0_loss cX0_loss 1 (some .int), .fieldLink RX0 15 "BlockClerks$Clerk" "low" "I", .methodLink RX0 43 Lib.Math.max.name, .static Lib.Math.max.name, .initialized "java/lang/Math", .code Lib.Math.max.name Lib.Math.max.code 2 (some .int), .methodLink RX0 39 yX0_lastLost, .instanceMethod yX0_lastLost, .selects RX0 yX0_lastLost yX0_lastLost, .code yX0_lastLost cX0_lastLost 1 (some .int), .fieldLink RX0 21 "BlockClerks$Clerk" "mark" "I", .fieldLink RX0 18 "BlockClerks$Clerk" "high" "I", .methodLink RX0 33 Lib.Math.min.name, .static Lib.Math.min.name, .code Lib.Math.min.name Lib.Math.min.code 2 (some .int)] ++ wsX20 ++ wsX00)
def wsX3_init : List Cond := .code yX3_init cX3_init 1 none :: ([.methodLink RX3 3 objectInit, .instanceMethod objectInit, .code objectInit ⟨#[0xb1]⟩ 1 none, .arrayClass .char, .fieldLink RX3 9 "BlockClerks$Script" "signs" "[C", .fieldLink RX3 15 "BlockClerks$Script" "length" "I", .fieldLink RX3 19 "BlockClerks$Script" "at" "I", .fieldLink RX3 22 "BlockClerks$Script" "verb" "I", .fieldLink RX3 25 "BlockClerks$Script" "first" "I", .fieldLink RX3 28 "BlockClerks$Script" "second" "I"] ++ wsX30)
def wsX3_append : List Cond := .code yX3_append cX3_append 2 (some .int) :: ([.fieldLink RX3 15 "BlockClerks$Script" "length" "I", .fieldLink RX3 9 "BlockClerks$Script" "signs" "[C"] ++ wsX30)
def wsX3_rewind : List Cond := .code yX3_rewind cX3_rewind 1 none :: ([.fieldLink RX3 19 "BlockClerks$Script" "at" "I"] ++ wsX30)
def wsJ0_coder_7d493 : List Cond := .code yJ0_coder_7d493 cJ0_coder_7d493 1 (some .byte) :: ([.fieldLink RJ0 38 "java/lang/String" "COMPACT_STRINGS" "Z", .fieldLink RJ0 15 "java/lang/String" "coder" "B"])
def wsJ0_length_8abf5 : List Cond := .code yJ0_length_8abf5 cJ0_length_8abf5 1 (some .int) :: ([.fieldLink RJ0 9 "java/lang/String" "value" "[B", .methodLink RJ0 335 yJ0_coder_7d493, .instanceMethod yJ0_coder_7d493, .selects RJ0 yJ0_coder_7d493 yJ0_coder_7d493, .initialized RJ0, .code yJ0_coder_7d493 cJ0_coder_7d493 1 (some .byte), .fieldLink RJ0 38 "java/lang/String" "COMPACT_STRINGS" "Z", .fieldLink RJ0 15 "java/lang/String" "coder" "B"])
def wsX3_signAt : List Cond := .code yX3_signAt cX3_signAt 2 (some .int) :: ([.fieldLink RX3 15 "BlockClerks$Script" "length" "I", .fieldLink RX3 9 "BlockClerks$Script" "signs" "[C"] ++ wsX30)
def wsJ0_isLatin1_aae02 : List Cond := .code yJ0_isLatin1_aae02 cJ0_isLatin1_aae02 1 (some .boolean) :: ([.fieldLink RJ0 38 "java/lang/String" "COMPACT_STRINGS" "Z", .fieldLink RJ0 15 "java/lang/String" "coder" "B"])
def wsJ3_checkIndex_8e157 : List Cond := .code yJ3_checkIndex_8e157 cJ3_checkIndex_8e157 3 (some .int) :: ([])
def wsJ0_checkIndex_df160 : List Cond := .code yJ0_checkIndex_df160 cJ0_checkIndex_df160 2 none :: ([.fieldLink RJ0 1053 "jdk/internal/util/Preconditions" "SIOOBE_FORMATTER" "Ljava/util/function/BiFunction;", .methodLink RJ0 1059 yJ3_checkIndex_8e157, .static yJ3_checkIndex_8e157, .initialized RJ3, .code yJ3_checkIndex_8e157 cJ3_checkIndex_8e157 3 (some .int)])
def wsJ1_charAt_3b067 : List Cond := .code yJ1_charAt_3b067 cJ1_charAt_3b067 2 (some .char) :: ([.methodLink RJ1 9 yJ0_checkIndex_df160, .static yJ0_checkIndex_df160, .initialized RJ0, .code yJ0_checkIndex_df160 cJ0_checkIndex_df160 2 none, .fieldLink RJ0 1053 "jdk/internal/util/Preconditions" "SIOOBE_FORMATTER" "Ljava/util/function/BiFunction;", .methodLink RJ0 1059 yJ3_checkIndex_8e157, .static yJ3_checkIndex_8e157, .initialized RJ3, .code yJ3_checkIndex_8e157 cJ3_checkIndex_8e157 3 (some .int)])
def wsJ2_length_9d52b : List Cond := .code yJ2_length_9d52b cJ2_length_9d52b 1 (some .int) :: ([])
def wsJ2_checkIndex_2214a : List Cond := .code yJ2_checkIndex_2214a cJ2_checkIndex_2214a 2 none :: ([.methodLink RJ2 48 yJ2_length_9d52b, .static yJ2_length_9d52b, .initialized RJ2, .code yJ2_length_9d52b cJ2_length_9d52b 1 (some .int), .methodLink RJ2 414 yJ0_checkIndex_df160, .static yJ0_checkIndex_df160, .initialized RJ0, .code yJ0_checkIndex_df160 cJ0_checkIndex_df160 2 none, .fieldLink RJ0 1053 "jdk/internal/util/Preconditions" "SIOOBE_FORMATTER" "Ljava/util/function/BiFunction;", .methodLink RJ0 1059 yJ3_checkIndex_8e157, .static yJ3_checkIndex_8e157, .initialized RJ3, .code yJ3_checkIndex_8e157 cJ3_checkIndex_8e157 3 (some .int)])
def wsJ2_getChar_3b067 : List Cond := .code yJ2_getChar_3b067 cJ2_getChar_3b067 2 (some .char) :: ([.fieldLink RJ2 44 "java/lang/StringUTF16" "$assertionsDisabled" "Z", .fieldLink RJ2 59 "java/lang/StringUTF16" "HI_BYTE_SHIFT" "I", .fieldLink RJ2 63 "java/lang/StringUTF16" "LO_BYTE_SHIFT" "I", .methodLink RJ2 48 yJ2_length_9d52b, .static yJ2_length_9d52b, .initialized RJ2, .code yJ2_length_9d52b cJ2_length_9d52b 1 (some .int)])
def wsJ2_charAt_3b067 : List Cond := .code yJ2_charAt_3b067 cJ2_charAt_3b067 2 (some .char) :: ([.methodLink RJ2 67 yJ2_checkIndex_2214a, .static yJ2_checkIndex_2214a, .initialized RJ2, .code yJ2_checkIndex_2214a cJ2_checkIndex_2214a 2 none, .methodLink RJ2 48 yJ2_length_9d52b, .static yJ2_length_9d52b, .code yJ2_length_9d52b cJ2_length_9d52b 1 (some .int), .methodLink RJ2 414 yJ0_checkIndex_df160, .static yJ0_checkIndex_df160, .initialized RJ0, .code yJ0_checkIndex_df160 cJ0_checkIndex_df160 2 none, .fieldLink RJ0 1053 "jdk/internal/util/Preconditions" "SIOOBE_FORMATTER" "Ljava/util/function/BiFunction;", .methodLink RJ0 1059 yJ3_checkIndex_8e157, .static yJ3_checkIndex_8e157, .initialized RJ3, .code yJ3_checkIndex_8e157 cJ3_checkIndex_8e157 3 (some .int), .methodLink RJ2 71 yJ2_getChar_3b067, .static yJ2_getChar_3b067, .code yJ2_getChar_3b067 cJ2_getChar_3b067 2 (some .char), .fieldLink RJ2 44 "java/lang/StringUTF16" "$assertionsDisabled" "Z", .fieldLink RJ2 59 "java/lang/StringUTF16" "HI_BYTE_SHIFT" "I", .fieldLink RJ2 63 "java/lang/StringUTF16" "LO_BYTE_SHIFT" "I"])
def wsJ0_charAt_5068e_r1 : List Cond := [Cond.fieldLink RJ0 9 "java/lang/String" "value" "[B", Cond.methodLink RJ0 492 yJ0_isLatin1_aae02, Cond.instanceMethod yJ0_isLatin1_aae02, Cond.selects RJ0 yJ0_isLatin1_aae02 yJ0_isLatin1_aae02, Cond.initialized RJ0, Cond.code yJ0_isLatin1_aae02 cJ0_isLatin1_aae02 1 (some .boolean), Cond.fieldLink RJ0 38 "java/lang/String" "COMPACT_STRINGS" "Z", Cond.fieldLink RJ0 15 "java/lang/String" "coder" "B", Cond.methodLink RJ0 495 yJ1_charAt_3b067, Cond.static yJ1_charAt_3b067, Cond.initialized RJ1, Cond.code yJ1_charAt_3b067 cJ1_charAt_3b067 2 (some .char), Cond.methodLink RJ1 9 yJ0_checkIndex_df160, Cond.static yJ0_checkIndex_df160, Cond.code yJ0_checkIndex_df160 cJ0_checkIndex_df160 2 none, Cond.fieldLink RJ0 1053 "jdk/internal/util/Preconditions" "SIOOBE_FORMATTER" "Ljava/util/function/BiFunction;", Cond.methodLink RJ0 1059 yJ3_checkIndex_8e157, Cond.static yJ3_checkIndex_8e157, Cond.initialized RJ3, Cond.code yJ3_checkIndex_8e157 cJ3_checkIndex_8e157 3 (some .int), Cond.methodLink RJ0 498 yJ2_charAt_3b067, Cond.static yJ2_charAt_3b067, Cond.initialized RJ2, Cond.code yJ2_charAt_3b067 cJ2_charAt_3b067 2 (some .char)]
def wsJ0_charAt_5068e_r2 : List Cond := [Cond.methodLink RJ2 67 yJ2_checkIndex_2214a, Cond.static yJ2_checkIndex_2214a, Cond.code yJ2_checkIndex_2214a cJ2_checkIndex_2214a 2 none, Cond.methodLink RJ2 48 yJ2_length_9d52b, Cond.static yJ2_length_9d52b, Cond.code yJ2_length_9d52b cJ2_length_9d52b 1 (some .int), Cond.methodLink RJ2 414 yJ0_checkIndex_df160, Cond.methodLink RJ2 71 yJ2_getChar_3b067, Cond.static yJ2_getChar_3b067, Cond.code yJ2_getChar_3b067 cJ2_getChar_3b067 2 (some .char), Cond.fieldLink RJ2 44 "java/lang/StringUTF16" "$assertionsDisabled" "Z", Cond.fieldLink RJ2 59 "java/lang/StringUTF16" "HI_BYTE_SHIFT" "I", Cond.fieldLink RJ2 63 "java/lang/StringUTF16" "LO_BYTE_SHIFT" "I"]
def wsJ0_charAt_5068e : List Cond := .code yJ0_charAt_5068e cJ0_charAt_5068e 2 (some .char) :: ((wsJ0_charAt_5068e_r1 ++ wsJ0_charAt_5068e_r2))
def wsX3_takeWord_r1 : List Cond := [Cond.fieldLink RX3 19 "BlockClerks$Script" "at" "I", Cond.methodLink RX3 58 yJ0_length_8abf5, Cond.instanceMethod yJ0_length_8abf5, Cond.selects RJ0 yJ0_length_8abf5 yJ0_length_8abf5, Cond.initialized RJ0, Cond.code yJ0_length_8abf5 cJ0_length_8abf5 1 (some .int), Cond.fieldLink RJ0 9 "java/lang/String" "value" "[B", Cond.methodLink RJ0 335 yJ0_coder_7d493, Cond.instanceMethod yJ0_coder_7d493, Cond.selects RJ0 yJ0_coder_7d493 yJ0_coder_7d493, Cond.code yJ0_coder_7d493 cJ0_coder_7d493 1 (some .byte), Cond.fieldLink RJ0 38 "java/lang/String" "COMPACT_STRINGS" "Z", Cond.fieldLink RJ0 15 "java/lang/String" "coder" "B", Cond.methodLink RX3 62 yX3_signAt, Cond.instanceMethod yX3_signAt, Cond.selects RX3 yX3_signAt yX3_signAt, Cond.initialized RX3, Cond.code yX3_signAt cX3_signAt 2 (some .int), Cond.fieldLink RX3 15 "BlockClerks$Script" "length" "I", Cond.fieldLink RX3 9 "BlockClerks$Script" "signs" "[C", Cond.methodLink RX3 66 yJ0_charAt_5068e, Cond.instanceMethod yJ0_charAt_5068e, Cond.selects RJ0 yJ0_charAt_5068e yJ0_charAt_5068e, Cond.code yJ0_charAt_5068e cJ0_charAt_5068e 2 (some .char)]
def wsX3_takeWord_r2 : List Cond := [Cond.methodLink RJ0 492 yJ0_isLatin1_aae02, Cond.instanceMethod yJ0_isLatin1_aae02, Cond.selects RJ0 yJ0_isLatin1_aae02 yJ0_isLatin1_aae02, Cond.code yJ0_isLatin1_aae02 cJ0_isLatin1_aae02 1 (some .boolean), Cond.methodLink RJ0 495 yJ1_charAt_3b067, Cond.static yJ1_charAt_3b067, Cond.initialized RJ1, Cond.code yJ1_charAt_3b067 cJ1_charAt_3b067 2 (some .char), Cond.methodLink RJ1 9 yJ0_checkIndex_df160, Cond.static yJ0_checkIndex_df160, Cond.code yJ0_checkIndex_df160 cJ0_checkIndex_df160 2 none, Cond.fieldLink RJ0 1053 "jdk/internal/util/Preconditions" "SIOOBE_FORMATTER" "Ljava/util/function/BiFunction;", Cond.methodLink RJ0 1059 yJ3_checkIndex_8e157, Cond.static yJ3_checkIndex_8e157, Cond.initialized RJ3, Cond.code yJ3_checkIndex_8e157 cJ3_checkIndex_8e157 3 (some .int), Cond.methodLink RJ0 498 yJ2_charAt_3b067, Cond.static yJ2_charAt_3b067, Cond.initialized RJ2, Cond.code yJ2_charAt_3b067 cJ2_charAt_3b067 2 (some .char), Cond.methodLink RJ2 67 yJ2_checkIndex_2214a, Cond.static yJ2_checkIndex_2214a, Cond.code yJ2_checkIndex_2214a cJ2_checkIndex_2214a 2 none, Cond.methodLink RJ2 48 yJ2_length_9d52b]
def wsX3_takeWord_r3 : List Cond := [Cond.static yJ2_length_9d52b, Cond.code yJ2_length_9d52b cJ2_length_9d52b 1 (some .int), Cond.methodLink RJ2 414 yJ0_checkIndex_df160, Cond.methodLink RJ2 71 yJ2_getChar_3b067, Cond.static yJ2_getChar_3b067, Cond.code yJ2_getChar_3b067 cJ2_getChar_3b067 2 (some .char), Cond.fieldLink RJ2 44 "java/lang/StringUTF16" "$assertionsDisabled" "Z", Cond.fieldLink RJ2 59 "java/lang/StringUTF16" "HI_BYTE_SHIFT" "I", Cond.fieldLink RJ2 63 "java/lang/StringUTF16" "LO_BYTE_SHIFT" "I"]
def wsX3_takeWord : List Cond := .code yX3_takeWord cX3_takeWord 3 (some .boolean) :: ((wsX3_takeWord_r1 ++ (wsX3_takeWord_r2 ++ wsX3_takeWord_r3)) ++ wsX30)
def wsX3_takeKind_r1 : List Cond := [Cond.methodLink RX3 33 yX3_takeWord, Cond.instanceMethod yX3_takeWord, Cond.selects RX3 yX3_takeWord yX3_takeWord, Cond.initialized RX3, Cond.code yX3_takeWord cX3_takeWord 3 (some .boolean), Cond.fieldLink RX3 19 "BlockClerks$Script" "at" "I", Cond.methodLink RX3 58 yJ0_length_8abf5, Cond.instanceMethod yJ0_length_8abf5, Cond.selects RJ0 yJ0_length_8abf5 yJ0_length_8abf5, Cond.initialized RJ0, Cond.code yJ0_length_8abf5 cJ0_length_8abf5 1 (some .int), Cond.fieldLink RJ0 9 "java/lang/String" "value" "[B", Cond.methodLink RJ0 335 yJ0_coder_7d493, Cond.instanceMethod yJ0_coder_7d493, Cond.selects RJ0 yJ0_coder_7d493 yJ0_coder_7d493, Cond.code yJ0_coder_7d493 cJ0_coder_7d493 1 (some .byte), Cond.fieldLink RJ0 38 "java/lang/String" "COMPACT_STRINGS" "Z", Cond.fieldLink RJ0 15 "java/lang/String" "coder" "B", Cond.methodLink RX3 62 yX3_signAt, Cond.instanceMethod yX3_signAt, Cond.selects RX3 yX3_signAt yX3_signAt, Cond.code yX3_signAt cX3_signAt 2 (some .int), Cond.fieldLink RX3 15 "BlockClerks$Script" "length" "I", Cond.fieldLink RX3 9 "BlockClerks$Script" "signs" "[C"]
def wsX3_takeKind_r2 : List Cond := [Cond.methodLink RX3 66 yJ0_charAt_5068e, Cond.instanceMethod yJ0_charAt_5068e, Cond.selects RJ0 yJ0_charAt_5068e yJ0_charAt_5068e, Cond.code yJ0_charAt_5068e cJ0_charAt_5068e 2 (some .char), Cond.methodLink RJ0 492 yJ0_isLatin1_aae02, Cond.instanceMethod yJ0_isLatin1_aae02, Cond.selects RJ0 yJ0_isLatin1_aae02 yJ0_isLatin1_aae02, Cond.code yJ0_isLatin1_aae02 cJ0_isLatin1_aae02 1 (some .boolean), Cond.methodLink RJ0 495 yJ1_charAt_3b067, Cond.static yJ1_charAt_3b067, Cond.initialized RJ1, Cond.code yJ1_charAt_3b067 cJ1_charAt_3b067 2 (some .char), Cond.methodLink RJ1 9 yJ0_checkIndex_df160, Cond.static yJ0_checkIndex_df160, Cond.code yJ0_checkIndex_df160 cJ0_checkIndex_df160 2 none, Cond.fieldLink RJ0 1053 "jdk/internal/util/Preconditions" "SIOOBE_FORMATTER" "Ljava/util/function/BiFunction;", Cond.methodLink RJ0 1059 yJ3_checkIndex_8e157, Cond.static yJ3_checkIndex_8e157, Cond.initialized RJ3, Cond.code yJ3_checkIndex_8e157 cJ3_checkIndex_8e157 3 (some .int), Cond.methodLink RJ0 498 yJ2_charAt_3b067, Cond.static yJ2_charAt_3b067, Cond.initialized RJ2, Cond.code yJ2_charAt_3b067 cJ2_charAt_3b067 2 (some .char)]
def wsX3_takeKind_r3 : List Cond := [Cond.methodLink RJ2 67 yJ2_checkIndex_2214a, Cond.static yJ2_checkIndex_2214a, Cond.code yJ2_checkIndex_2214a cJ2_checkIndex_2214a 2 none, Cond.methodLink RJ2 48 yJ2_length_9d52b, Cond.static yJ2_length_9d52b, Cond.code yJ2_length_9d52b cJ2_length_9d52b 1 (some .int), Cond.methodLink RJ2 414 yJ0_checkIndex_df160, Cond.methodLink RJ2 71 yJ2_getChar_3b067, Cond.static yJ2_getChar_3b067, Cond.code yJ2_getChar_3b067 cJ2_getChar_3b067 2 (some .char), Cond.fieldLink RJ2 44 "java/lang/StringUTF16" "$assertionsDisabled" "Z", Cond.fieldLink RJ2 59 "java/lang/StringUTF16" "HI_BYTE_SHIFT" "I", Cond.fieldLink RJ2 63 "java/lang/StringUTF16" "LO_BYTE_SHIFT" "I"]
def wsX3_takeKind : List Cond := .code yX3_takeKind cX3_takeKind 1 (some .int) :: ((wsX3_takeKind_r1 ++ (wsX3_takeKind_r2 ++ wsX3_takeKind_r3)) ++ wsX30)
def wsX3_isDigit : List Cond := .code yX3_isDigit cX3_isDigit 1 (some .boolean) :: ([])
def wsX3_takeNumber : List Cond := .code yX3_takeNumber cX3_takeNumber 3 (some .int) :: ([.fieldLink RX3 19 "BlockClerks$Script" "at" "I", .methodLink RX3 80 Lib.Math.max.name, .static Lib.Math.max.name, .initialized "java/lang/Math", .code Lib.Math.max.name Lib.Math.max.code 2 (some .int), .methodLink RX3 62 yX3_signAt, .instanceMethod yX3_signAt, .selects RX3 yX3_signAt yX3_signAt, .initialized RX3, .code yX3_signAt cX3_signAt 2 (some .int), .fieldLink RX3 15 "BlockClerks$Script" "length" "I", .fieldLink RX3 9 "BlockClerks$Script" "signs" "[C", .methodLink RX3 76 yX3_isDigit, .static yX3_isDigit, .code yX3_isDigit cX3_isDigit 1 (some .boolean)] ++ wsX30)
def wsX3_readCommand_r1 : List Cond := [Cond.fieldLink RX3 25 "BlockClerks$Script" "first" "I", Cond.fieldLink RX3 28 "BlockClerks$Script" "second" "I", Cond.fieldLink RX3 22 "BlockClerks$Script" "verb" "I", Cond.methodLink RX3 33 yX3_takeWord, Cond.instanceMethod yX3_takeWord, Cond.selects RX3 yX3_takeWord yX3_takeWord, Cond.initialized RX3, Cond.code yX3_takeWord cX3_takeWord 3 (some .boolean), Cond.fieldLink RX3 19 "BlockClerks$Script" "at" "I", Cond.methodLink RX3 58 yJ0_length_8abf5, Cond.instanceMethod yJ0_length_8abf5, Cond.selects RJ0 yJ0_length_8abf5 yJ0_length_8abf5, Cond.initialized RJ0, Cond.code yJ0_length_8abf5 cJ0_length_8abf5 1 (some .int), Cond.fieldLink RJ0 9 "java/lang/String" "value" "[B", Cond.methodLink RJ0 335 yJ0_coder_7d493, Cond.instanceMethod yJ0_coder_7d493, Cond.selects RJ0 yJ0_coder_7d493 yJ0_coder_7d493, Cond.code yJ0_coder_7d493 cJ0_coder_7d493 1 (some .byte), Cond.fieldLink RJ0 38 "java/lang/String" "COMPACT_STRINGS" "Z", Cond.fieldLink RJ0 15 "java/lang/String" "coder" "B", Cond.methodLink RX3 62 yX3_signAt, Cond.instanceMethod yX3_signAt, Cond.selects RX3 yX3_signAt yX3_signAt]
def wsX3_readCommand_r2 : List Cond := [Cond.code yX3_signAt cX3_signAt 2 (some .int), Cond.fieldLink RX3 15 "BlockClerks$Script" "length" "I", Cond.fieldLink RX3 9 "BlockClerks$Script" "signs" "[C", Cond.methodLink RX3 66 yJ0_charAt_5068e, Cond.instanceMethod yJ0_charAt_5068e, Cond.selects RJ0 yJ0_charAt_5068e yJ0_charAt_5068e, Cond.code yJ0_charAt_5068e cJ0_charAt_5068e 2 (some .char), Cond.methodLink RJ0 492 yJ0_isLatin1_aae02, Cond.instanceMethod yJ0_isLatin1_aae02, Cond.selects RJ0 yJ0_isLatin1_aae02 yJ0_isLatin1_aae02, Cond.code yJ0_isLatin1_aae02 cJ0_isLatin1_aae02 1 (some .boolean), Cond.methodLink RJ0 495 yJ1_charAt_3b067, Cond.static yJ1_charAt_3b067, Cond.initialized RJ1, Cond.code yJ1_charAt_3b067 cJ1_charAt_3b067 2 (some .char), Cond.methodLink RJ1 9 yJ0_checkIndex_df160, Cond.static yJ0_checkIndex_df160, Cond.code yJ0_checkIndex_df160 cJ0_checkIndex_df160 2 none, Cond.fieldLink RJ0 1053 "jdk/internal/util/Preconditions" "SIOOBE_FORMATTER" "Ljava/util/function/BiFunction;", Cond.methodLink RJ0 1059 yJ3_checkIndex_8e157, Cond.static yJ3_checkIndex_8e157, Cond.initialized RJ3, Cond.code yJ3_checkIndex_8e157 cJ3_checkIndex_8e157 3 (some .int), Cond.methodLink RJ0 498 yJ2_charAt_3b067]
def wsX3_readCommand_r3 : List Cond := [Cond.static yJ2_charAt_3b067, Cond.initialized RJ2, Cond.code yJ2_charAt_3b067 cJ2_charAt_3b067 2 (some .char), Cond.methodLink RJ2 67 yJ2_checkIndex_2214a, Cond.static yJ2_checkIndex_2214a, Cond.code yJ2_checkIndex_2214a cJ2_checkIndex_2214a 2 none, Cond.methodLink RJ2 48 yJ2_length_9d52b, Cond.static yJ2_length_9d52b, Cond.code yJ2_length_9d52b cJ2_length_9d52b 1 (some .int), Cond.methodLink RJ2 414 yJ0_checkIndex_df160, Cond.methodLink RJ2 71 yJ2_getChar_3b067, Cond.static yJ2_getChar_3b067, Cond.code yJ2_getChar_3b067 cJ2_getChar_3b067 2 (some .char), Cond.fieldLink RJ2 44 "java/lang/StringUTF16" "$assertionsDisabled" "Z", Cond.fieldLink RJ2 59 "java/lang/StringUTF16" "HI_BYTE_SHIFT" "I", Cond.fieldLink RJ2 63 "java/lang/StringUTF16" "LO_BYTE_SHIFT" "I", Cond.methodLink RX3 37 yX3_takeKind, Cond.instanceMethod yX3_takeKind, Cond.selects RX3 yX3_takeKind yX3_takeKind, Cond.code yX3_takeKind cX3_takeKind 1 (some .int), Cond.methodLink RX3 43 yX3_takeNumber, Cond.instanceMethod yX3_takeNumber, Cond.selects RX3 yX3_takeNumber yX3_takeNumber, Cond.code yX3_takeNumber cX3_takeNumber 3 (some .int)]
def wsX3_readCommand_r4 : List Cond := [Cond.methodLink RX3 80 Lib.Math.max.name, Cond.static Lib.Math.max.name, Cond.initialized "java/lang/Math", Cond.code Lib.Math.max.name Lib.Math.max.code 2 (some .int), Cond.methodLink RX3 76 yX3_isDigit, Cond.static yX3_isDigit, Cond.code yX3_isDigit cX3_isDigit 1 (some .boolean)]
def wsX3_readCommand : List Cond := .code yX3_readCommand cX3_readCommand 1 (some .boolean) :: ((wsX3_readCommand_r1 ++ (wsX3_readCommand_r2 ++ (wsX3_readCommand_r3 ++ wsX3_readCommand_r4))) ++ wsX30)
def wsX4_init_r1 : List Cond := [Cond.methodLink RX4 1 objectInit, Cond.instanceMethod objectInit, Cond.code objectInit ⟨#[0xb1]⟩ 1 none, Cond.classLink RX4 7 RX2, Cond.instantiable RX2 5, Cond.initialized RX2, Cond.fieldLink RX4 10 "BlockClerks" "office" "LBlockClerks$Office;", Cond.fieldLink RX4 16 "BlockClerks" "trial" "LBlockClerks$Office;", Cond.fieldLink RX4 19 "BlockClerks" "history" "[LBlockClerks$Office;", Cond.fieldLink RX4 23 "BlockClerks" "kept" "I", Cond.classLink RX4 27 RX3, Cond.instantiable RX3 6, Cond.initialized RX3, Cond.fieldLink RX4 30 "BlockClerks" "script" "LBlockClerks$Script;", Cond.fieldLink RX4 34 "BlockClerks" "faultPosition" "I", Cond.fieldLink RX4 37 "BlockClerks" "faultReason" "I", Cond.methodLink RX4 9 yX2_init, Cond.instanceMethod yX2_init, Cond.code yX2_init cX2_init 2 none, Cond.methodLink RX2 3 objectInit, Cond.classLink RX2 9 RX1, Cond.instantiable RX1 8, Cond.initialized RX1, Cond.fieldLink RX2 12 "BlockClerks$Office" "numbers" "LBlockClerks$Numbers;"]
def wsX4_init_r2 : List Cond := [Cond.classLink RX2 18 RX0, Cond.fieldLink RX2 20 "BlockClerks$Office" "clerks" "[LBlockClerks$Clerk;", Cond.fieldLink RX2 24 "BlockClerks$Office" "clerkCount" "I", Cond.arrayClass .int, Cond.fieldLink RX2 28 "BlockClerks$Office" "settings" "[I", Cond.fieldLink RX2 32 "BlockClerks$Office" "today" "I", Cond.instantiable RX0 7, Cond.initialized RX0, Cond.methodLink RX2 11 yX1_init, Cond.instanceMethod yX1_init, Cond.code yX1_init cX1_init 2 none, Cond.methodLink RX1 3 objectInit, Cond.fieldLink RX1 9 "BlockClerks$Numbers" "state" "[I", Cond.fieldLink RX1 15 "BlockClerks$Numbers" "owner" "[I", Cond.fieldLink RX1 18 "BlockClerks$Numbers" "reason" "[I", Cond.fieldLink RX1 21 "BlockClerks$Numbers" "turn" "[I", Cond.fieldLink RX1 24 "BlockClerks$Numbers" "day" "[I", Cond.fieldLink RX1 27 "BlockClerks$Numbers" "inTurn" "[I", Cond.fieldLink RX1 30 "BlockClerks$Numbers" "turns" "I", Cond.fieldLink RX1 34 "BlockClerks$Numbers" "firstNew" "I", Cond.instanceMethod yX0_init, Cond.code yX0_init cX0_init 1 none, Cond.methodLink RX0 3 objectInit, Cond.fieldLink RX0 9 "BlockClerks$Clerk" "kind" "I"]
def wsX4_init_r3 : List Cond := [Cond.fieldLink RX0 15 "BlockClerks$Clerk" "low" "I", Cond.fieldLink RX0 18 "BlockClerks$Clerk" "high" "I", Cond.fieldLink RX0 21 "BlockClerks$Clerk" "mark" "I", Cond.fieldLink RX0 24 "BlockClerks$Clerk" "given" "I", Cond.fieldLink RX0 27 "BlockClerks$Clerk" "blocks" "I", Cond.fieldLink RX0 30 "BlockClerks$Clerk" "latest" "I", Cond.instanceMethod yX3_init, Cond.code yX3_init cX3_init 1 none, Cond.methodLink RX3 3 objectInit, Cond.arrayClass .char, Cond.fieldLink RX3 9 "BlockClerks$Script" "signs" "[C", Cond.fieldLink RX3 15 "BlockClerks$Script" "length" "I", Cond.fieldLink RX3 19 "BlockClerks$Script" "at" "I", Cond.fieldLink RX3 22 "BlockClerks$Script" "verb" "I", Cond.fieldLink RX3 25 "BlockClerks$Script" "first" "I", Cond.fieldLink RX3 28 "BlockClerks$Script" "second" "I"]
def wsX4_init : List Cond := .code yX4_init cX4_init 2 none :: ((wsX4_init_r1 ++ (wsX4_init_r2 ++ wsX4_init_r3)) ++ wsX20 ++ wsX40 ++ wsX30 ++ wsX10 ++ wsX00)
def wsX4_dropOldest : List Cond := .code yX4_dropOldest cX4_dropOldest 3 none :: ([.fieldLink RX4 19 "BlockClerks" "history" "[LBlockClerks$Office;", .fieldLink RX4 23 "BlockClerks" "kept" "I"] ++ wsX40)
def wsX4_remember_r1 : List Cond := [Cond.fieldLink RX4 23 "BlockClerks" "kept" "I", Cond.fieldLink RX4 19 "BlockClerks" "history" "[LBlockClerks$Office;", Cond.fieldLink RX4 10 "BlockClerks" "office" "LBlockClerks$Office;", Cond.methodLink RX4 124 yX4_dropOldest, Cond.instanceMethod yX4_dropOldest, Cond.selects RX4 yX4_dropOldest yX4_dropOldest, Cond.initialized RX4, Cond.code yX4_dropOldest cX4_dropOldest 3 none, Cond.methodLink RX4 40 yX2_become, Cond.instanceMethod yX2_become, Cond.selects RX2 yX2_become yX2_become, Cond.initialized RX2, Cond.code yX2_become cX2_become 3 none, Cond.fieldLink RX2 12 "BlockClerks$Office" "numbers" "LBlockClerks$Numbers;", Cond.fieldLink RX2 20 "BlockClerks$Office" "clerks" "[LBlockClerks$Clerk;", Cond.fieldLink RX2 24 "BlockClerks$Office" "clerkCount" "I", Cond.fieldLink RX2 28 "BlockClerks$Office" "settings" "[I", Cond.methodLink RX2 43 arraycopyName, Cond.native arraycopyName, Cond.static arraycopyName, Cond.initialized "java/lang/System", Cond.fieldLink RX2 32 "BlockClerks$Office" "today" "I", Cond.methodLink RX2 36 yX1_become, Cond.instanceMethod yX1_become]
def wsX4_remember_r2 : List Cond := [Cond.selects RX1 yX1_become yX1_become, Cond.initialized RX1, Cond.code yX1_become cX1_become 2 none, Cond.fieldLink RX1 9 "BlockClerks$Numbers" "state" "[I", Cond.methodLink RX1 37 arraycopyName, Cond.fieldLink RX1 15 "BlockClerks$Numbers" "owner" "[I", Cond.fieldLink RX1 18 "BlockClerks$Numbers" "reason" "[I", Cond.fieldLink RX1 21 "BlockClerks$Numbers" "turn" "[I", Cond.fieldLink RX1 24 "BlockClerks$Numbers" "day" "[I", Cond.fieldLink RX1 27 "BlockClerks$Numbers" "inTurn" "[I", Cond.fieldLink RX1 30 "BlockClerks$Numbers" "turns" "I", Cond.fieldLink RX1 34 "BlockClerks$Numbers" "firstNew" "I", Cond.methodLink RX2 40 yX0_become, Cond.instanceMethod yX0_become, Cond.selects RX0 yX0_become yX0_become, Cond.initialized RX0, Cond.code yX0_become cX0_become 2 none, Cond.fieldLink RX0 9 "BlockClerks$Clerk" "kind" "I", Cond.fieldLink RX0 15 "BlockClerks$Clerk" "low" "I", Cond.fieldLink RX0 18 "BlockClerks$Clerk" "high" "I", Cond.fieldLink RX0 21 "BlockClerks$Clerk" "mark" "I", Cond.fieldLink RX0 24 "BlockClerks$Clerk" "given" "I", Cond.fieldLink RX0 27 "BlockClerks$Clerk" "blocks" "I", Cond.fieldLink RX0 30 "BlockClerks$Clerk" "latest" "I"]
def wsX4_remember : List Cond := .code yX4_remember cX4_remember 1 none :: ((wsX4_remember_r1 ++ wsX4_remember_r2) ++ wsX40 ++ wsX20 ++ wsX10 ++ wsX00)
def wsX4_adopt_r1 : List Cond := [Cond.fieldLink RX4 10 "BlockClerks" "office" "LBlockClerks$Office;", Cond.fieldLink RX4 16 "BlockClerks" "trial" "LBlockClerks$Office;", Cond.methodLink RX4 121 yX4_remember, Cond.instanceMethod yX4_remember, Cond.selects RX4 yX4_remember yX4_remember, Cond.initialized RX4, Cond.code yX4_remember cX4_remember 1 none, Cond.fieldLink RX4 23 "BlockClerks" "kept" "I", Cond.fieldLink RX4 19 "BlockClerks" "history" "[LBlockClerks$Office;", Cond.methodLink RX4 124 yX4_dropOldest, Cond.instanceMethod yX4_dropOldest, Cond.selects RX4 yX4_dropOldest yX4_dropOldest, Cond.code yX4_dropOldest cX4_dropOldest 3 none, Cond.methodLink RX4 40 yX2_become, Cond.instanceMethod yX2_become, Cond.selects RX2 yX2_become yX2_become, Cond.initialized RX2, Cond.code yX2_become cX2_become 3 none, Cond.fieldLink RX2 12 "BlockClerks$Office" "numbers" "LBlockClerks$Numbers;", Cond.fieldLink RX2 20 "BlockClerks$Office" "clerks" "[LBlockClerks$Clerk;", Cond.fieldLink RX2 24 "BlockClerks$Office" "clerkCount" "I", Cond.fieldLink RX2 28 "BlockClerks$Office" "settings" "[I", Cond.methodLink RX2 43 arraycopyName, Cond.native arraycopyName]
def wsX4_adopt_r2 : List Cond := [Cond.static arraycopyName, Cond.initialized "java/lang/System", Cond.fieldLink RX2 32 "BlockClerks$Office" "today" "I", Cond.methodLink RX2 36 yX1_become, Cond.instanceMethod yX1_become, Cond.selects RX1 yX1_become yX1_become, Cond.initialized RX1, Cond.code yX1_become cX1_become 2 none, Cond.fieldLink RX1 9 "BlockClerks$Numbers" "state" "[I", Cond.methodLink RX1 37 arraycopyName, Cond.fieldLink RX1 15 "BlockClerks$Numbers" "owner" "[I", Cond.fieldLink RX1 18 "BlockClerks$Numbers" "reason" "[I", Cond.fieldLink RX1 21 "BlockClerks$Numbers" "turn" "[I", Cond.fieldLink RX1 24 "BlockClerks$Numbers" "day" "[I", Cond.fieldLink RX1 27 "BlockClerks$Numbers" "inTurn" "[I", Cond.fieldLink RX1 30 "BlockClerks$Numbers" "turns" "I", Cond.fieldLink RX1 34 "BlockClerks$Numbers" "firstNew" "I", Cond.methodLink RX2 40 yX0_become, Cond.instanceMethod yX0_become, Cond.selects RX0 yX0_become yX0_become, Cond.initialized RX0, Cond.code yX0_become cX0_become 2 none, Cond.fieldLink RX0 9 "BlockClerks$Clerk" "kind" "I", Cond.fieldLink RX0 15 "BlockClerks$Clerk" "low" "I"]
def wsX4_adopt_r3 : List Cond := [Cond.fieldLink RX0 18 "BlockClerks$Clerk" "high" "I", Cond.fieldLink RX0 21 "BlockClerks$Clerk" "mark" "I", Cond.fieldLink RX0 24 "BlockClerks$Clerk" "given" "I", Cond.fieldLink RX0 27 "BlockClerks$Clerk" "blocks" "I", Cond.fieldLink RX0 30 "BlockClerks$Clerk" "latest" "I"]
def wsX4_adopt : List Cond := .code yX4_adopt cX4_adopt 2 (some .int) :: ((wsX4_adopt_r1 ++ (wsX4_adopt_r2 ++ wsX4_adopt_r3)) ++ wsX40 ++ wsX20 ++ wsX10 ++ wsX00)
def wsX4_clerk_r1 : List Cond := [Cond.fieldLink RX4 16 "BlockClerks" "trial" "LBlockClerks$Office;", Cond.fieldLink RX4 10 "BlockClerks" "office" "LBlockClerks$Office;", Cond.methodLink RX4 40 yX2_become, Cond.instanceMethod yX2_become, Cond.selects RX2 yX2_become yX2_become, Cond.initialized RX2, Cond.code yX2_become cX2_become 3 none, Cond.fieldLink RX2 12 "BlockClerks$Office" "numbers" "LBlockClerks$Numbers;", Cond.fieldLink RX2 20 "BlockClerks$Office" "clerks" "[LBlockClerks$Clerk;", Cond.fieldLink RX2 24 "BlockClerks$Office" "clerkCount" "I", Cond.fieldLink RX2 28 "BlockClerks$Office" "settings" "[I", Cond.methodLink RX2 43 arraycopyName, Cond.native arraycopyName, Cond.static arraycopyName, Cond.initialized "java/lang/System", Cond.fieldLink RX2 32 "BlockClerks$Office" "today" "I", Cond.methodLink RX2 36 yX1_become, Cond.instanceMethod yX1_become, Cond.selects RX1 yX1_become yX1_become, Cond.initialized RX1, Cond.code yX1_become cX1_become 2 none, Cond.fieldLink RX1 9 "BlockClerks$Numbers" "state" "[I", Cond.methodLink RX1 37 arraycopyName, Cond.fieldLink RX1 15 "BlockClerks$Numbers" "owner" "[I"]
def wsX4_clerk_r2 : List Cond := [Cond.fieldLink RX1 18 "BlockClerks$Numbers" "reason" "[I", Cond.fieldLink RX1 21 "BlockClerks$Numbers" "turn" "[I", Cond.fieldLink RX1 24 "BlockClerks$Numbers" "day" "[I", Cond.fieldLink RX1 27 "BlockClerks$Numbers" "inTurn" "[I", Cond.fieldLink RX1 30 "BlockClerks$Numbers" "turns" "I", Cond.fieldLink RX1 34 "BlockClerks$Numbers" "firstNew" "I", Cond.methodLink RX2 40 yX0_become, Cond.instanceMethod yX0_become, Cond.selects RX0 yX0_become yX0_become, Cond.initialized RX0, Cond.code yX0_become cX0_become 2 none, Cond.fieldLink RX0 9 "BlockClerks$Clerk" "kind" "I", Cond.fieldLink RX0 15 "BlockClerks$Clerk" "low" "I", Cond.fieldLink RX0 18 "BlockClerks$Clerk" "high" "I", Cond.fieldLink RX0 21 "BlockClerks$Clerk" "mark" "I", Cond.fieldLink RX0 24 "BlockClerks$Clerk" "given" "I", Cond.fieldLink RX0 27 "BlockClerks$Clerk" "blocks" "I", Cond.fieldLink RX0 30 "BlockClerks$Clerk" "latest" "I", Cond.methodLink RX4 44 yX2_addClerk, Cond.instanceMethod yX2_addClerk, Cond.selects RX2 yX2_addClerk yX2_addClerk, Cond.code yX2_addClerk cX2_addClerk 2 (some .int), Cond.fieldLink RX2 49 "BlockClerks$Clerk" "kind" "I", Cond.methodLink RX4 48 yX4_adopt]
def wsX4_clerk_r3 : List Cond := [Cond.instanceMethod yX4_adopt, Cond.selects RX4 yX4_adopt yX4_adopt, Cond.initialized RX4, Cond.code yX4_adopt cX4_adopt 2 (some .int), Cond.methodLink RX4 121 yX4_remember, Cond.instanceMethod yX4_remember, Cond.selects RX4 yX4_remember yX4_remember, Cond.code yX4_remember cX4_remember 1 none, Cond.fieldLink RX4 23 "BlockClerks" "kept" "I", Cond.fieldLink RX4 19 "BlockClerks" "history" "[LBlockClerks$Office;", Cond.methodLink RX4 124 yX4_dropOldest, Cond.instanceMethod yX4_dropOldest, Cond.selects RX4 yX4_dropOldest yX4_dropOldest, Cond.code yX4_dropOldest cX4_dropOldest 3 none]
def wsX4_clerk : List Cond := .code yX4_clerk cX4_clerk 2 (some .int) :: ((wsX4_clerk_r1 ++ (wsX4_clerk_r2 ++ wsX4_clerk_r3)) ++ wsX40 ++ wsX20 ++ wsX10 ++ wsX00)
def wsX4_ask_r1 : List Cond := [Cond.fieldLink RX4 16 "BlockClerks" "trial" "LBlockClerks$Office;", Cond.fieldLink RX4 10 "BlockClerks" "office" "LBlockClerks$Office;", Cond.methodLink RX4 40 yX2_become, Cond.instanceMethod yX2_become, Cond.selects RX2 yX2_become yX2_become, Cond.initialized RX2, Cond.code yX2_become cX2_become 3 none, Cond.fieldLink RX2 12 "BlockClerks$Office" "numbers" "LBlockClerks$Numbers;", Cond.fieldLink RX2 20 "BlockClerks$Office" "clerks" "[LBlockClerks$Clerk;", Cond.fieldLink RX2 24 "BlockClerks$Office" "clerkCount" "I", Cond.fieldLink RX2 28 "BlockClerks$Office" "settings" "[I", Cond.methodLink RX2 43 arraycopyName, Cond.native arraycopyName, Cond.static arraycopyName, Cond.initialized "java/lang/System", Cond.fieldLink RX2 32 "BlockClerks$Office" "today" "I", Cond.methodLink RX2 36 yX1_become, Cond.instanceMethod yX1_become, Cond.selects RX1 yX1_become yX1_become, Cond.initialized RX1, Cond.code yX1_become cX1_become 2 none, Cond.fieldLink RX1 9 "BlockClerks$Numbers" "state" "[I", Cond.methodLink RX1 37 arraycopyName, Cond.fieldLink RX1 15 "BlockClerks$Numbers" "owner" "[I"]
def wsX4_ask_r2 : List Cond := [Cond.fieldLink RX1 18 "BlockClerks$Numbers" "reason" "[I", Cond.fieldLink RX1 21 "BlockClerks$Numbers" "turn" "[I", Cond.fieldLink RX1 24 "BlockClerks$Numbers" "day" "[I", Cond.fieldLink RX1 27 "BlockClerks$Numbers" "inTurn" "[I", Cond.fieldLink RX1 30 "BlockClerks$Numbers" "turns" "I", Cond.fieldLink RX1 34 "BlockClerks$Numbers" "firstNew" "I", Cond.methodLink RX2 40 yX0_become, Cond.instanceMethod yX0_become, Cond.selects RX0 yX0_become yX0_become, Cond.initialized RX0, Cond.code yX0_become cX0_become 2 none, Cond.fieldLink RX0 9 "BlockClerks$Clerk" "kind" "I", Cond.fieldLink RX0 15 "BlockClerks$Clerk" "low" "I", Cond.fieldLink RX0 18 "BlockClerks$Clerk" "high" "I", Cond.fieldLink RX0 21 "BlockClerks$Clerk" "mark" "I", Cond.fieldLink RX0 24 "BlockClerks$Clerk" "given" "I", Cond.fieldLink RX0 27 "BlockClerks$Clerk" "blocks" "I", Cond.fieldLink RX0 30 "BlockClerks$Clerk" "latest" "I", Cond.methodLink RX4 51 yX2_serve, Cond.instanceMethod yX2_serve, Cond.selects RX2 yX2_serve yX2_serve, Cond.code yX2_serve cX2_serve 5 (some .int), Cond.methodLink RX2 52 yX2_isClerk, Cond.instanceMethod yX2_isClerk]
def wsX4_ask_r3 : List Cond := [Cond.selects RX2 yX2_isClerk yX2_isClerk, Cond.code yX2_isClerk cX2_isClerk 2 (some .boolean), Cond.methodLink RX2 56 yX2_available, Cond.instanceMethod yX2_available, Cond.selects RX2 yX2_available yX2_available, Cond.code yX2_available cX2_available 3 (some .int), Cond.methodLink RX2 75 yX1_inState, Cond.instanceMethod yX1_inState, Cond.selects RX1 yX1_inState yX1_inState, Cond.code yX1_inState cX1_inState 6 (some .int), Cond.methodLink RX1 49 Lib.Math.max.name, Cond.static Lib.Math.max.name, Cond.initialized "java/lang/Math", Cond.code Lib.Math.max.name Lib.Math.max.code 2 (some .int), Cond.methodLink RX2 60 yX0_held, Cond.instanceMethod yX0_held, Cond.selects RX0 yX0_held yX0_held, Cond.code yX0_held cX0_held 1 (some .int), Cond.methodLink RX2 64 yX2_handOut, Cond.instanceMethod yX2_handOut, Cond.selects RX2 yX2_handOut yX2_handOut, Cond.code yX2_handOut cX2_handOut 4 none, Cond.methodLink RX2 85 yX2_startOfBlock, Cond.instanceMethod yX2_startOfBlock]
def wsX4_ask_r4 : List Cond := [Cond.selects RX2 yX2_startOfBlock yX2_startOfBlock, Cond.code yX2_startOfBlock cX2_startOfBlock 2 (some .int), Cond.fieldLink RX2 82 "BlockClerks$Numbers" "firstNew" "I", Cond.methodLink RX2 79 yX1_lowestFree, Cond.instanceMethod yX1_lowestFree, Cond.selects RX1 yX1_lowestFree yX1_lowestFree, Cond.code yX1_lowestFree cX1_lowestFree 2 (some .int), Cond.methodLink RX2 88 yX1_isNumber, Cond.static yX1_isNumber, Cond.code yX1_isNumber cX1_isNumber 1 (some .boolean), Cond.methodLink RX2 91 yX1_lastOfRow, Cond.instanceMethod yX1_lastOfRow, Cond.selects RX1 yX1_lastOfRow yX1_lastOfRow, Cond.code yX1_lastOfRow cX1_lastOfRow 4 (some .int), Cond.methodLink RX1 60 yX1_goesOn, Cond.instanceMethod yX1_goesOn, Cond.selects RX1 yX1_goesOn yX1_goesOn, Cond.code yX1_goesOn cX1_goesOn 2 (some .boolean), Cond.methodLink RX2 95 yX1_put, Cond.instanceMethod yX1_put, Cond.selects RX1 yX1_put yX1_put, Cond.code yX1_put cX1_put 8 none, Cond.methodLink RX1 43 Lib.Math.min.name, Cond.static Lib.Math.min.name]
def wsX4_ask_r5 : List Cond := [Cond.code Lib.Math.min.name Lib.Math.min.code 2 (some .int), Cond.methodLink RX2 99 yX0_receive, Cond.instanceMethod yX0_receive, Cond.selects RX0 yX0_receive yX0_receive, Cond.code yX0_receive cX0_receive 3 none, Cond.methodLink RX2 68 yX0_giveLowest, Cond.instanceMethod yX0_giveLowest, Cond.selects RX0 yX0_giveLowest yX0_giveLowest, Cond.code yX0_giveLowest cX0_giveLowest 3 (some .int), Cond.methodLink RX0 33 Lib.Math.min.name, Cond.methodLink RX2 71 yX1_give, Cond.instanceMethod yX1_give, Cond.selects RX1 yX1_give yX1_give, Cond.code yX1_give cX1_give 4 none, Cond.methodLink RX1 52 yX1_isNumber, Cond.methodLink RX1 56 yX1_put, Cond.methodLink RX4 48 yX4_adopt, Cond.instanceMethod yX4_adopt, Cond.selects RX4 yX4_adopt yX4_adopt, Cond.initialized RX4, Cond.code yX4_adopt cX4_adopt 2 (some .int), Cond.methodLink RX4 121 yX4_remember, Cond.instanceMethod yX4_remember, Cond.selects RX4 yX4_remember yX4_remember]
def wsX4_ask_r6 : List Cond := [Cond.code yX4_remember cX4_remember 1 none, Cond.fieldLink RX4 23 "BlockClerks" "kept" "I", Cond.fieldLink RX4 19 "BlockClerks" "history" "[LBlockClerks$Office;", Cond.methodLink RX4 124 yX4_dropOldest, Cond.instanceMethod yX4_dropOldest, Cond.selects RX4 yX4_dropOldest yX4_dropOldest, Cond.code yX4_dropOldest cX4_dropOldest 3 none]
def wsX4_ask : List Cond := .code yX4_ask cX4_ask 3 (some .int) :: ((wsX4_ask_r1 ++ (wsX4_ask_r2 ++ (wsX4_ask_r3 ++ (wsX4_ask_r4 ++ (wsX4_ask_r5 ++ wsX4_ask_r6))))) ++ wsX40 ++ wsX20 ++ wsX10 ++ wsX00)
def wsX4_forget_r1 : List Cond := [Cond.fieldLink RX4 16 "BlockClerks" "trial" "LBlockClerks$Office;", Cond.fieldLink RX4 10 "BlockClerks" "office" "LBlockClerks$Office;", Cond.methodLink RX4 40 yX2_become, Cond.instanceMethod yX2_become, Cond.selects RX2 yX2_become yX2_become, Cond.initialized RX2, Cond.code yX2_become cX2_become 3 none, Cond.fieldLink RX2 12 "BlockClerks$Office" "numbers" "LBlockClerks$Numbers;", Cond.fieldLink RX2 20 "BlockClerks$Office" "clerks" "[LBlockClerks$Clerk;", Cond.fieldLink RX2 24 "BlockClerks$Office" "clerkCount" "I", Cond.fieldLink RX2 28 "BlockClerks$Office" "settings" "[I", Cond.methodLink RX2 43 arraycopyName, Cond.native arraycopyName, Cond.static arraycopyName, Cond.initialized "java/lang/System", Cond.fieldLink RX2 32 "BlockClerks$Office" "today" "I", Cond.methodLink RX2 36 yX1_become, Cond.instanceMethod yX1_become, Cond.selects RX1 yX1_become yX1_become, Cond.initialized RX1, Cond.code yX1_become cX1_become 2 none, Cond.fieldLink RX1 9 "BlockClerks$Numbers" "state" "[I", Cond.methodLink RX1 37 arraycopyName, Cond.fieldLink RX1 15 "BlockClerks$Numbers" "owner" "[I"]
def wsX4_forget_r2 : List Cond := [Cond.fieldLink RX1 18 "BlockClerks$Numbers" "reason" "[I", Cond.fieldLink RX1 21 "BlockClerks$Numbers" "turn" "[I", Cond.fieldLink RX1 24 "BlockClerks$Numbers" "day" "[I", Cond.fieldLink RX1 27 "BlockClerks$Numbers" "inTurn" "[I", Cond.fieldLink RX1 30 "BlockClerks$Numbers" "turns" "I", Cond.fieldLink RX1 34 "BlockClerks$Numbers" "firstNew" "I", Cond.methodLink RX2 40 yX0_become, Cond.instanceMethod yX0_become, Cond.selects RX0 yX0_become yX0_become, Cond.initialized RX0, Cond.code yX0_become cX0_become 2 none, Cond.fieldLink RX0 9 "BlockClerks$Clerk" "kind" "I", Cond.fieldLink RX0 15 "BlockClerks$Clerk" "low" "I", Cond.fieldLink RX0 18 "BlockClerks$Clerk" "high" "I", Cond.fieldLink RX0 21 "BlockClerks$Clerk" "mark" "I", Cond.fieldLink RX0 24 "BlockClerks$Clerk" "given" "I", Cond.fieldLink RX0 27 "BlockClerks$Clerk" "blocks" "I", Cond.fieldLink RX0 30 "BlockClerks$Clerk" "latest" "I", Cond.methodLink RX4 55 yX2_letForget, Cond.instanceMethod yX2_letForget, Cond.selects RX2 yX2_letForget yX2_letForget, Cond.code yX2_letForget cX2_letForget 4 (some .int), Cond.fieldLink RX2 106 "BlockClerks$Clerk" "low" "I", Cond.methodLink RX2 52 yX2_isClerk]
def wsX4_forget_r3 : List Cond := [Cond.instanceMethod yX2_isClerk, Cond.selects RX2 yX2_isClerk yX2_isClerk, Cond.code yX2_isClerk cX2_isClerk 2 (some .boolean), Cond.methodLink RX2 60 yX0_held, Cond.instanceMethod yX0_held, Cond.selects RX0 yX0_held yX0_held, Cond.code yX0_held cX0_held 1 (some .int), Cond.methodLink RX2 103 yX0_loss, Cond.instanceMethod yX0_loss, Cond.selects RX0 yX0_loss yX0_loss, Cond.code yX0_loss cX0_loss 1 (some .int), Cond.methodLink RX0 43 Lib.Math.max.name, Cond.static Lib.Math.max.name, Cond.initialized "java/lang/Math", Cond.code Lib.Math.max.name Lib.Math.max.code 2 (some .int), Cond.methodLink RX0 39 yX0_lastLost, Cond.instanceMethod yX0_lastLost, Cond.selects RX0 yX0_lastLost yX0_lastLost, Cond.code yX0_lastLost cX0_lastLost 1 (some .int), Cond.methodLink RX0 33 Lib.Math.min.name, Cond.static Lib.Math.min.name, Cond.code Lib.Math.min.name Lib.Math.min.code 2 (some .int), Cond.methodLink RX2 109 yX0_lastLost, Cond.methodLink RX2 95 yX1_put]
def wsX4_forget_r4 : List Cond := [Cond.instanceMethod yX1_put, Cond.selects RX1 yX1_put yX1_put, Cond.code yX1_put cX1_put 8 none, Cond.methodLink RX1 43 Lib.Math.min.name, Cond.methodLink RX1 49 Lib.Math.max.name, Cond.methodLink RX4 48 yX4_adopt, Cond.instanceMethod yX4_adopt, Cond.selects RX4 yX4_adopt yX4_adopt, Cond.initialized RX4, Cond.code yX4_adopt cX4_adopt 2 (some .int), Cond.methodLink RX4 121 yX4_remember, Cond.instanceMethod yX4_remember, Cond.selects RX4 yX4_remember yX4_remember, Cond.code yX4_remember cX4_remember 1 none, Cond.fieldLink RX4 23 "BlockClerks" "kept" "I", Cond.fieldLink RX4 19 "BlockClerks" "history" "[LBlockClerks$Office;", Cond.methodLink RX4 124 yX4_dropOldest, Cond.instanceMethod yX4_dropOldest, Cond.selects RX4 yX4_dropOldest yX4_dropOldest, Cond.code yX4_dropOldest cX4_dropOldest 3 none]
def wsX4_forget : List Cond := .code yX4_forget cX4_forget 2 (some .int) :: ((wsX4_forget_r1 ++ (wsX4_forget_r2 ++ (wsX4_forget_r3 ++ wsX4_forget_r4))) ++ wsX40 ++ wsX20 ++ wsX10 ++ wsX00)
def wsX4_giveBack_r1 : List Cond := [Cond.fieldLink RX4 16 "BlockClerks" "trial" "LBlockClerks$Office;", Cond.fieldLink RX4 10 "BlockClerks" "office" "LBlockClerks$Office;", Cond.methodLink RX4 40 yX2_become, Cond.instanceMethod yX2_become, Cond.selects RX2 yX2_become yX2_become, Cond.initialized RX2, Cond.code yX2_become cX2_become 3 none, Cond.fieldLink RX2 12 "BlockClerks$Office" "numbers" "LBlockClerks$Numbers;", Cond.fieldLink RX2 20 "BlockClerks$Office" "clerks" "[LBlockClerks$Clerk;", Cond.fieldLink RX2 24 "BlockClerks$Office" "clerkCount" "I", Cond.fieldLink RX2 28 "BlockClerks$Office" "settings" "[I", Cond.methodLink RX2 43 arraycopyName, Cond.native arraycopyName, Cond.static arraycopyName, Cond.initialized "java/lang/System", Cond.fieldLink RX2 32 "BlockClerks$Office" "today" "I", Cond.methodLink RX2 36 yX1_become, Cond.instanceMethod yX1_become, Cond.selects RX1 yX1_become yX1_become, Cond.initialized RX1, Cond.code yX1_become cX1_become 2 none, Cond.fieldLink RX1 9 "BlockClerks$Numbers" "state" "[I", Cond.methodLink RX1 37 arraycopyName, Cond.fieldLink RX1 15 "BlockClerks$Numbers" "owner" "[I"]
def wsX4_giveBack_r2 : List Cond := [Cond.fieldLink RX1 18 "BlockClerks$Numbers" "reason" "[I", Cond.fieldLink RX1 21 "BlockClerks$Numbers" "turn" "[I", Cond.fieldLink RX1 24 "BlockClerks$Numbers" "day" "[I", Cond.fieldLink RX1 27 "BlockClerks$Numbers" "inTurn" "[I", Cond.fieldLink RX1 30 "BlockClerks$Numbers" "turns" "I", Cond.fieldLink RX1 34 "BlockClerks$Numbers" "firstNew" "I", Cond.methodLink RX2 40 yX0_become, Cond.instanceMethod yX0_become, Cond.selects RX0 yX0_become yX0_become, Cond.initialized RX0, Cond.code yX0_become cX0_become 2 none, Cond.fieldLink RX0 9 "BlockClerks$Clerk" "kind" "I", Cond.fieldLink RX0 15 "BlockClerks$Clerk" "low" "I", Cond.fieldLink RX0 18 "BlockClerks$Clerk" "high" "I", Cond.fieldLink RX0 21 "BlockClerks$Clerk" "mark" "I", Cond.fieldLink RX0 24 "BlockClerks$Clerk" "given" "I", Cond.fieldLink RX0 27 "BlockClerks$Clerk" "blocks" "I", Cond.fieldLink RX0 30 "BlockClerks$Clerk" "latest" "I", Cond.methodLink RX4 58 yX2_takeBack, Cond.instanceMethod yX2_takeBack, Cond.selects RX2 yX2_takeBack yX2_takeBack, Cond.code yX2_takeBack cX2_takeBack 4 (some .int), Cond.fieldLink RX2 106 "BlockClerks$Clerk" "low" "I", Cond.fieldLink RX2 112 "BlockClerks$Clerk" "high" "I"]
def wsX4_giveBack_r3 : List Cond := [Cond.methodLink RX2 52 yX2_isClerk, Cond.instanceMethod yX2_isClerk, Cond.selects RX2 yX2_isClerk yX2_isClerk, Cond.code yX2_isClerk cX2_isClerk 2 (some .boolean), Cond.methodLink RX2 60 yX0_held, Cond.instanceMethod yX0_held, Cond.selects RX0 yX0_held yX0_held, Cond.code yX0_held cX0_held 1 (some .int), Cond.methodLink RX2 95 yX1_put, Cond.instanceMethod yX1_put, Cond.selects RX1 yX1_put yX1_put, Cond.code yX1_put cX1_put 8 none, Cond.methodLink RX1 43 Lib.Math.min.name, Cond.static Lib.Math.min.name, Cond.initialized "java/lang/Math", Cond.code Lib.Math.min.name Lib.Math.min.code 2 (some .int), Cond.methodLink RX1 49 Lib.Math.max.name, Cond.static Lib.Math.max.name, Cond.code Lib.Math.max.name Lib.Math.max.code 2 (some .int), Cond.methodLink RX2 115 yX0_drop, Cond.instanceMethod yX0_drop, Cond.selects RX0 yX0_drop yX0_drop, Cond.code yX0_drop cX0_drop 1 none, Cond.methodLink RX4 48 yX4_adopt]
def wsX4_giveBack_r4 : List Cond := [Cond.instanceMethod yX4_adopt, Cond.selects RX4 yX4_adopt yX4_adopt, Cond.initialized RX4, Cond.code yX4_adopt cX4_adopt 2 (some .int), Cond.methodLink RX4 121 yX4_remember, Cond.instanceMethod yX4_remember, Cond.selects RX4 yX4_remember yX4_remember, Cond.code yX4_remember cX4_remember 1 none, Cond.fieldLink RX4 23 "BlockClerks" "kept" "I", Cond.fieldLink RX4 19 "BlockClerks" "history" "[LBlockClerks$Office;", Cond.methodLink RX4 124 yX4_dropOldest, Cond.instanceMethod yX4_dropOldest, Cond.selects RX4 yX4_dropOldest yX4_dropOldest, Cond.code yX4_dropOldest cX4_dropOldest 3 none]
def wsX4_giveBack : List Cond := .code yX4_giveBack cX4_giveBack 2 (some .int) :: ((wsX4_giveBack_r1 ++ (wsX4_giveBack_r2 ++ (wsX4_giveBack_r3 ++ wsX4_giveBack_r4))) ++ wsX40 ++ wsX20 ++ wsX10 ++ wsX00)
def wsX4_makeVoid_r1 : List Cond := [Cond.fieldLink RX4 16 "BlockClerks" "trial" "LBlockClerks$Office;", Cond.fieldLink RX4 10 "BlockClerks" "office" "LBlockClerks$Office;", Cond.methodLink RX4 40 yX2_become, Cond.instanceMethod yX2_become, Cond.selects RX2 yX2_become yX2_become, Cond.initialized RX2, Cond.code yX2_become cX2_become 3 none, Cond.fieldLink RX2 12 "BlockClerks$Office" "numbers" "LBlockClerks$Numbers;", Cond.fieldLink RX2 20 "BlockClerks$Office" "clerks" "[LBlockClerks$Clerk;", Cond.fieldLink RX2 24 "BlockClerks$Office" "clerkCount" "I", Cond.fieldLink RX2 28 "BlockClerks$Office" "settings" "[I", Cond.methodLink RX2 43 arraycopyName, Cond.native arraycopyName, Cond.static arraycopyName, Cond.initialized "java/lang/System", Cond.fieldLink RX2 32 "BlockClerks$Office" "today" "I", Cond.methodLink RX2 36 yX1_become, Cond.instanceMethod yX1_become, Cond.selects RX1 yX1_become yX1_become, Cond.initialized RX1, Cond.code yX1_become cX1_become 2 none, Cond.fieldLink RX1 9 "BlockClerks$Numbers" "state" "[I", Cond.methodLink RX1 37 arraycopyName, Cond.fieldLink RX1 15 "BlockClerks$Numbers" "owner" "[I"]
def wsX4_makeVoid_r2 : List Cond := [Cond.fieldLink RX1 18 "BlockClerks$Numbers" "reason" "[I", Cond.fieldLink RX1 21 "BlockClerks$Numbers" "turn" "[I", Cond.fieldLink RX1 24 "BlockClerks$Numbers" "day" "[I", Cond.fieldLink RX1 27 "BlockClerks$Numbers" "inTurn" "[I", Cond.fieldLink RX1 30 "BlockClerks$Numbers" "turns" "I", Cond.fieldLink RX1 34 "BlockClerks$Numbers" "firstNew" "I", Cond.methodLink RX2 40 yX0_become, Cond.instanceMethod yX0_become, Cond.selects RX0 yX0_become yX0_become, Cond.initialized RX0, Cond.code yX0_become cX0_become 2 none, Cond.fieldLink RX0 9 "BlockClerks$Clerk" "kind" "I", Cond.fieldLink RX0 15 "BlockClerks$Clerk" "low" "I", Cond.fieldLink RX0 18 "BlockClerks$Clerk" "high" "I", Cond.fieldLink RX0 21 "BlockClerks$Clerk" "mark" "I", Cond.fieldLink RX0 24 "BlockClerks$Clerk" "given" "I", Cond.fieldLink RX0 27 "BlockClerks$Clerk" "blocks" "I", Cond.fieldLink RX0 30 "BlockClerks$Clerk" "latest" "I", Cond.methodLink RX4 61 yX2_cancel, Cond.instanceMethod yX2_cancel, Cond.selects RX2 yX2_cancel yX2_cancel, Cond.code yX2_cancel cX2_cancel 2 (some .int), Cond.fieldLink RX2 118 "BlockClerks$Numbers" "state" "[I", Cond.fieldLink RX2 121 "BlockClerks$Numbers" "owner" "[I"]
def wsX4_makeVoid_r3 : List Cond := [Cond.methodLink RX2 88 yX1_isNumber, Cond.static yX1_isNumber, Cond.code yX1_isNumber cX1_isNumber 1 (some .boolean), Cond.methodLink RX2 95 yX1_put, Cond.instanceMethod yX1_put, Cond.selects RX1 yX1_put yX1_put, Cond.code yX1_put cX1_put 8 none, Cond.methodLink RX1 43 Lib.Math.min.name, Cond.static Lib.Math.min.name, Cond.initialized "java/lang/Math", Cond.code Lib.Math.min.name Lib.Math.min.code 2 (some .int), Cond.methodLink RX1 49 Lib.Math.max.name, Cond.static Lib.Math.max.name, Cond.code Lib.Math.max.name Lib.Math.max.code 2 (some .int), Cond.methodLink RX4 48 yX4_adopt, Cond.instanceMethod yX4_adopt, Cond.selects RX4 yX4_adopt yX4_adopt, Cond.initialized RX4, Cond.code yX4_adopt cX4_adopt 2 (some .int), Cond.methodLink RX4 121 yX4_remember, Cond.instanceMethod yX4_remember, Cond.selects RX4 yX4_remember yX4_remember, Cond.code yX4_remember cX4_remember 1 none, Cond.fieldLink RX4 23 "BlockClerks" "kept" "I"]
def wsX4_makeVoid_r4 : List Cond := [Cond.fieldLink RX4 19 "BlockClerks" "history" "[LBlockClerks$Office;", Cond.methodLink RX4 124 yX4_dropOldest, Cond.instanceMethod yX4_dropOldest, Cond.selects RX4 yX4_dropOldest yX4_dropOldest, Cond.code yX4_dropOldest cX4_dropOldest 3 none]
def wsX4_makeVoid : List Cond := .code yX4_makeVoid cX4_makeVoid 2 (some .int) :: ((wsX4_makeVoid_r1 ++ (wsX4_makeVoid_r2 ++ (wsX4_makeVoid_r3 ++ wsX4_makeVoid_r4))) ++ wsX40 ++ wsX20 ++ wsX10 ++ wsX00)
def wsX4_close_r1 : List Cond := [Cond.fieldLink RX4 16 "BlockClerks" "trial" "LBlockClerks$Office;", Cond.fieldLink RX4 10 "BlockClerks" "office" "LBlockClerks$Office;", Cond.methodLink RX4 40 yX2_become, Cond.instanceMethod yX2_become, Cond.selects RX2 yX2_become yX2_become, Cond.initialized RX2, Cond.code yX2_become cX2_become 3 none, Cond.fieldLink RX2 12 "BlockClerks$Office" "numbers" "LBlockClerks$Numbers;", Cond.fieldLink RX2 20 "BlockClerks$Office" "clerks" "[LBlockClerks$Clerk;", Cond.fieldLink RX2 24 "BlockClerks$Office" "clerkCount" "I", Cond.fieldLink RX2 28 "BlockClerks$Office" "settings" "[I", Cond.methodLink RX2 43 arraycopyName, Cond.native arraycopyName, Cond.static arraycopyName, Cond.initialized "java/lang/System", Cond.fieldLink RX2 32 "BlockClerks$Office" "today" "I", Cond.methodLink RX2 36 yX1_become, Cond.instanceMethod yX1_become, Cond.selects RX1 yX1_become yX1_become, Cond.initialized RX1, Cond.code yX1_become cX1_become 2 none, Cond.fieldLink RX1 9 "BlockClerks$Numbers" "state" "[I", Cond.methodLink RX1 37 arraycopyName, Cond.fieldLink RX1 15 "BlockClerks$Numbers" "owner" "[I"]
def wsX4_close_r2 : List Cond := [Cond.fieldLink RX1 18 "BlockClerks$Numbers" "reason" "[I", Cond.fieldLink RX1 21 "BlockClerks$Numbers" "turn" "[I", Cond.fieldLink RX1 24 "BlockClerks$Numbers" "day" "[I", Cond.fieldLink RX1 27 "BlockClerks$Numbers" "inTurn" "[I", Cond.fieldLink RX1 30 "BlockClerks$Numbers" "turns" "I", Cond.fieldLink RX1 34 "BlockClerks$Numbers" "firstNew" "I", Cond.methodLink RX2 40 yX0_become, Cond.instanceMethod yX0_become, Cond.selects RX0 yX0_become yX0_become, Cond.initialized RX0, Cond.code yX0_become cX0_become 2 none, Cond.fieldLink RX0 9 "BlockClerks$Clerk" "kind" "I", Cond.fieldLink RX0 15 "BlockClerks$Clerk" "low" "I", Cond.fieldLink RX0 18 "BlockClerks$Clerk" "high" "I", Cond.fieldLink RX0 21 "BlockClerks$Clerk" "mark" "I", Cond.fieldLink RX0 24 "BlockClerks$Clerk" "given" "I", Cond.fieldLink RX0 27 "BlockClerks$Clerk" "blocks" "I", Cond.fieldLink RX0 30 "BlockClerks$Clerk" "latest" "I", Cond.methodLink RX4 64 yX2_endDay, Cond.instanceMethod yX2_endDay, Cond.selects RX2 yX2_endDay yX2_endDay, Cond.code yX2_endDay cX2_endDay 3 (some .int), Cond.methodLink RX2 124 yX1_closeAll, Cond.instanceMethod yX1_closeAll]
def wsX4_close_r3 : List Cond := [Cond.selects RX1 yX1_closeAll yX1_closeAll, Cond.code yX1_closeAll cX1_closeAll 3 (some .int), Cond.methodLink RX1 56 yX1_put, Cond.instanceMethod yX1_put, Cond.selects RX1 yX1_put yX1_put, Cond.code yX1_put cX1_put 8 none, Cond.methodLink RX1 43 Lib.Math.min.name, Cond.static Lib.Math.min.name, Cond.initialized "java/lang/Math", Cond.code Lib.Math.min.name Lib.Math.min.code 2 (some .int), Cond.methodLink RX1 49 Lib.Math.max.name, Cond.static Lib.Math.max.name, Cond.code Lib.Math.max.name Lib.Math.max.code 2 (some .int), Cond.methodLink RX2 115 yX0_drop, Cond.instanceMethod yX0_drop, Cond.selects RX0 yX0_drop yX0_drop, Cond.code yX0_drop cX0_drop 1 none, Cond.methodLink RX4 48 yX4_adopt, Cond.instanceMethod yX4_adopt, Cond.selects RX4 yX4_adopt yX4_adopt, Cond.initialized RX4, Cond.code yX4_adopt cX4_adopt 2 (some .int), Cond.methodLink RX4 121 yX4_remember, Cond.instanceMethod yX4_remember]
def wsX4_close_r4 : List Cond := [Cond.selects RX4 yX4_remember yX4_remember, Cond.code yX4_remember cX4_remember 1 none, Cond.fieldLink RX4 23 "BlockClerks" "kept" "I", Cond.fieldLink RX4 19 "BlockClerks" "history" "[LBlockClerks$Office;", Cond.methodLink RX4 124 yX4_dropOldest, Cond.instanceMethod yX4_dropOldest, Cond.selects RX4 yX4_dropOldest yX4_dropOldest, Cond.code yX4_dropOldest cX4_dropOldest 3 none]
def wsX4_close : List Cond := .code yX4_close cX4_close 1 (some .int) :: ((wsX4_close_r1 ++ (wsX4_close_r2 ++ (wsX4_close_r3 ++ wsX4_close_r4))) ++ wsX40 ++ wsX20 ++ wsX10 ++ wsX00)
def wsX4_set_r1 : List Cond := [Cond.fieldLink RX4 16 "BlockClerks" "trial" "LBlockClerks$Office;", Cond.fieldLink RX4 10 "BlockClerks" "office" "LBlockClerks$Office;", Cond.methodLink RX4 40 yX2_become, Cond.instanceMethod yX2_become, Cond.selects RX2 yX2_become yX2_become, Cond.initialized RX2, Cond.code yX2_become cX2_become 3 none, Cond.fieldLink RX2 12 "BlockClerks$Office" "numbers" "LBlockClerks$Numbers;", Cond.fieldLink RX2 20 "BlockClerks$Office" "clerks" "[LBlockClerks$Clerk;", Cond.fieldLink RX2 24 "BlockClerks$Office" "clerkCount" "I", Cond.fieldLink RX2 28 "BlockClerks$Office" "settings" "[I", Cond.methodLink RX2 43 arraycopyName, Cond.native arraycopyName, Cond.static arraycopyName, Cond.initialized "java/lang/System", Cond.fieldLink RX2 32 "BlockClerks$Office" "today" "I", Cond.methodLink RX2 36 yX1_become, Cond.instanceMethod yX1_become, Cond.selects RX1 yX1_become yX1_become, Cond.initialized RX1, Cond.code yX1_become cX1_become 2 none, Cond.fieldLink RX1 9 "BlockClerks$Numbers" "state" "[I", Cond.methodLink RX1 37 arraycopyName, Cond.fieldLink RX1 15 "BlockClerks$Numbers" "owner" "[I"]
def wsX4_set_r2 : List Cond := [Cond.fieldLink RX1 18 "BlockClerks$Numbers" "reason" "[I", Cond.fieldLink RX1 21 "BlockClerks$Numbers" "turn" "[I", Cond.fieldLink RX1 24 "BlockClerks$Numbers" "day" "[I", Cond.fieldLink RX1 27 "BlockClerks$Numbers" "inTurn" "[I", Cond.fieldLink RX1 30 "BlockClerks$Numbers" "turns" "I", Cond.fieldLink RX1 34 "BlockClerks$Numbers" "firstNew" "I", Cond.methodLink RX2 40 yX0_become, Cond.instanceMethod yX0_become, Cond.selects RX0 yX0_become yX0_become, Cond.initialized RX0, Cond.code yX0_become cX0_become 2 none, Cond.fieldLink RX0 9 "BlockClerks$Clerk" "kind" "I", Cond.fieldLink RX0 15 "BlockClerks$Clerk" "low" "I", Cond.fieldLink RX0 18 "BlockClerks$Clerk" "high" "I", Cond.fieldLink RX0 21 "BlockClerks$Clerk" "mark" "I", Cond.fieldLink RX0 24 "BlockClerks$Clerk" "given" "I", Cond.fieldLink RX0 27 "BlockClerks$Clerk" "blocks" "I", Cond.fieldLink RX0 30 "BlockClerks$Clerk" "latest" "I", Cond.methodLink RX4 68 yX2_change, Cond.instanceMethod yX2_change, Cond.selects RX2 yX2_change yX2_change, Cond.code yX2_change cX2_change 4 (some .int), Cond.fieldLink RX2 127 "BlockClerks$Office" "LEAST" "[I", Cond.fieldLink RX2 130 "BlockClerks$Office" "MOST" "[I"]
def wsX4_set_r3 : List Cond := [Cond.methodLink RX4 48 yX4_adopt, Cond.instanceMethod yX4_adopt, Cond.selects RX4 yX4_adopt yX4_adopt, Cond.initialized RX4, Cond.code yX4_adopt cX4_adopt 2 (some .int), Cond.methodLink RX4 121 yX4_remember, Cond.instanceMethod yX4_remember, Cond.selects RX4 yX4_remember yX4_remember, Cond.code yX4_remember cX4_remember 1 none, Cond.fieldLink RX4 23 "BlockClerks" "kept" "I", Cond.fieldLink RX4 19 "BlockClerks" "history" "[LBlockClerks$Office;", Cond.methodLink RX4 124 yX4_dropOldest, Cond.instanceMethod yX4_dropOldest, Cond.selects RX4 yX4_dropOldest yX4_dropOldest, Cond.code yX4_dropOldest cX4_dropOldest 3 none]
def wsX4_set : List Cond := .code yX4_set cX4_set 3 (some .int) :: ((wsX4_set_r1 ++ (wsX4_set_r2 ++ wsX4_set_r3)) ++ wsX40 ++ wsX20 ++ wsX10 ++ wsX00)
def wsX4_numberOf : List Cond := .code yX4_numberOf cX4_numberOf 3 (some .int) :: ([.fieldLink RX4 10 "BlockClerks" "office" "LBlockClerks$Office;", .fieldLink RX4 71 "BlockClerks$Office" "numbers" "LBlockClerks$Numbers;", .methodLink RX4 75 yX1_tell, .instanceMethod yX1_tell, .selects RX1 yX1_tell yX1_tell, .initialized RX1, .code yX1_tell cX1_tell 3 (some .int), .fieldLink RX1 9 "BlockClerks$Numbers" "state" "[I", .fieldLink RX1 15 "BlockClerks$Numbers" "owner" "[I", .fieldLink RX1 21 "BlockClerks$Numbers" "turn" "[I", .fieldLink RX1 24 "BlockClerks$Numbers" "day" "[I", .fieldLink RX1 18 "BlockClerks$Numbers" "reason" "[I", .methodLink RX1 52 yX1_isNumber, .static yX1_isNumber, .code yX1_isNumber cX1_isNumber 1 (some .boolean), .static yX4_orNotFound, .initialized RX4, .code yX4_orNotFound cX4_orNotFound 1 (some .int), .methodLink RX1 77 yX1_tellLateness, .instanceMethod yX1_tellLateness, .selects RX1 yX1_tellLateness yX1_tellLateness, .code yX1_tellLateness cX1_tellLateness 3 (some .int), .fieldLink RX1 27 "BlockClerks$Numbers" "inTurn" "[I"] ++ wsX40 ++ wsX20 ++ wsX10)
def wsX4_clerkOf_r1 : List Cond := [Cond.fieldLink RX4 10 "BlockClerks" "office" "LBlockClerks$Office;", Cond.methodLink RX4 80 yX2_tellOfClerk, Cond.instanceMethod yX2_tellOfClerk, Cond.selects RX2 yX2_tellOfClerk yX2_tellOfClerk, Cond.initialized RX2, Cond.code yX2_tellOfClerk cX2_tellOfClerk 5 (some .int), Cond.fieldLink RX2 20 "BlockClerks$Office" "clerks" "[LBlockClerks$Clerk;", Cond.fieldLink RX2 49 "BlockClerks$Clerk" "kind" "I", Cond.fieldLink RX2 106 "BlockClerks$Clerk" "low" "I", Cond.fieldLink RX2 112 "BlockClerks$Clerk" "high" "I", Cond.fieldLink RX2 133 "BlockClerks$Clerk" "mark" "I", Cond.fieldLink RX2 136 "BlockClerks$Clerk" "given" "I", Cond.fieldLink RX2 12 "BlockClerks$Office" "numbers" "LBlockClerks$Numbers;", Cond.fieldLink RX2 145 "BlockClerks$Clerk" "blocks" "I", Cond.fieldLink RX2 148 "BlockClerks$Clerk" "latest" "I", Cond.methodLink RX2 52 yX2_isClerk, Cond.instanceMethod yX2_isClerk, Cond.selects RX2 yX2_isClerk yX2_isClerk, Cond.code yX2_isClerk cX2_isClerk 2 (some .boolean), Cond.fieldLink RX2 24 "BlockClerks$Office" "clerkCount" "I", Cond.methodLink RX2 60 yX0_held, Cond.instanceMethod yX0_held, Cond.selects RX0 yX0_held yX0_held, Cond.initialized RX0]
def wsX4_clerkOf_r2 : List Cond := [Cond.code yX0_held cX0_held 1 (some .int), Cond.fieldLink RX0 18 "BlockClerks$Clerk" "high" "I", Cond.fieldLink RX0 15 "BlockClerks$Clerk" "low" "I", Cond.methodLink RX2 139 yX1_holesOf, Cond.instanceMethod yX1_holesOf, Cond.selects RX1 yX1_holesOf yX1_holesOf, Cond.initialized RX1, Cond.code yX1_holesOf cX1_holesOf 4 (some .int), Cond.fieldLink RX1 9 "BlockClerks$Numbers" "state" "[I", Cond.fieldLink RX1 15 "BlockClerks$Numbers" "owner" "[I", Cond.methodLink RX2 142 yX1_forgottenOf, Cond.instanceMethod yX1_forgottenOf, Cond.selects RX1 yX1_forgottenOf yX1_forgottenOf, Cond.code yX1_forgottenOf cX1_forgottenOf 4 (some .int), Cond.fieldLink RX1 18 "BlockClerks$Numbers" "reason" "[I", Cond.static yX4_orNotFound, Cond.initialized RX4, Cond.code yX4_orNotFound cX4_orNotFound 1 (some .int)]
def wsX4_clerkOf : List Cond := .code yX4_clerkOf cX4_clerkOf 3 (some .int) :: ((wsX4_clerkOf_r1 ++ wsX4_clerkOf_r2) ++ wsX40 ++ wsX20 ++ wsX00 ++ wsX10)
def wsX4_holesAt_r1 : List Cond := [Cond.fieldLink RX4 10 "BlockClerks" "office" "LBlockClerks$Office;", Cond.fieldLink RX4 71 "BlockClerks$Office" "numbers" "LBlockClerks$Numbers;", Cond.methodLink RX4 83 yX1_tellOfRow, Cond.instanceMethod yX1_tellOfRow, Cond.selects RX1 yX1_tellOfRow yX1_tellOfRow, Cond.initialized RX1, Cond.code yX1_tellOfRow cX1_tellOfRow 5 (some .int), Cond.fieldLink RX1 18 "BlockClerks$Numbers" "reason" "[I", Cond.fieldLink RX1 15 "BlockClerks$Numbers" "owner" "[I", Cond.methodLink RX1 67 yX1_startOfRow, Cond.instanceMethod yX1_startOfRow, Cond.selects RX1 yX1_startOfRow yX1_startOfRow, Cond.code yX1_startOfRow cX1_startOfRow 5 (some .int), Cond.methodLink RX1 63 yX1_startsRow, Cond.instanceMethod yX1_startsRow, Cond.selects RX1 yX1_startsRow yX1_startsRow, Cond.code yX1_startsRow cX1_startsRow 3 (some .boolean), Cond.fieldLink RX1 9 "BlockClerks$Numbers" "state" "[I", Cond.methodLink RX1 52 yX1_isNumber, Cond.static yX1_isNumber, Cond.code yX1_isNumber cX1_isNumber 1 (some .boolean), Cond.methodLink RX1 60 yX1_goesOn, Cond.instanceMethod yX1_goesOn, Cond.selects RX1 yX1_goesOn yX1_goesOn]
def wsX4_holesAt_r2 : List Cond := [Cond.code yX1_goesOn cX1_goesOn 2 (some .boolean), Cond.methodLink RX1 70 yX1_lastOfRow, Cond.instanceMethod yX1_lastOfRow, Cond.selects RX1 yX1_lastOfRow yX1_lastOfRow, Cond.code yX1_lastOfRow cX1_lastOfRow 4 (some .int), Cond.static yX4_orNotFound, Cond.initialized RX4, Cond.code yX4_orNotFound cX4_orNotFound 1 (some .int)]
def wsX4_holesAt : List Cond := .code yX4_holesAt cX4_holesAt 3 (some .int) :: ((wsX4_holesAt_r1 ++ wsX4_holesAt_r2) ++ wsX40 ++ wsX20 ++ wsX10)
def wsX4_freeAt_r1 : List Cond := [Cond.fieldLink RX4 10 "BlockClerks" "office" "LBlockClerks$Office;", Cond.fieldLink RX4 71 "BlockClerks$Office" "numbers" "LBlockClerks$Numbers;", Cond.methodLink RX4 83 yX1_tellOfRow, Cond.instanceMethod yX1_tellOfRow, Cond.selects RX1 yX1_tellOfRow yX1_tellOfRow, Cond.initialized RX1, Cond.code yX1_tellOfRow cX1_tellOfRow 5 (some .int), Cond.fieldLink RX1 18 "BlockClerks$Numbers" "reason" "[I", Cond.fieldLink RX1 15 "BlockClerks$Numbers" "owner" "[I", Cond.methodLink RX1 67 yX1_startOfRow, Cond.instanceMethod yX1_startOfRow, Cond.selects RX1 yX1_startOfRow yX1_startOfRow, Cond.code yX1_startOfRow cX1_startOfRow 5 (some .int), Cond.methodLink RX1 63 yX1_startsRow, Cond.instanceMethod yX1_startsRow, Cond.selects RX1 yX1_startsRow yX1_startsRow, Cond.code yX1_startsRow cX1_startsRow 3 (some .boolean), Cond.fieldLink RX1 9 "BlockClerks$Numbers" "state" "[I", Cond.methodLink RX1 52 yX1_isNumber, Cond.static yX1_isNumber, Cond.code yX1_isNumber cX1_isNumber 1 (some .boolean), Cond.methodLink RX1 60 yX1_goesOn, Cond.instanceMethod yX1_goesOn, Cond.selects RX1 yX1_goesOn yX1_goesOn]
def wsX4_freeAt_r2 : List Cond := [Cond.code yX1_goesOn cX1_goesOn 2 (some .boolean), Cond.methodLink RX1 70 yX1_lastOfRow, Cond.instanceMethod yX1_lastOfRow, Cond.selects RX1 yX1_lastOfRow yX1_lastOfRow, Cond.code yX1_lastOfRow cX1_lastOfRow 4 (some .int), Cond.static yX4_orNotFound, Cond.initialized RX4, Cond.code yX4_orNotFound cX4_orNotFound 1 (some .int)]
def wsX4_freeAt : List Cond := .code yX4_freeAt cX4_freeAt 3 (some .int) :: ((wsX4_freeAt_r1 ++ wsX4_freeAt_r2) ++ wsX40 ++ wsX20 ++ wsX10)
def wsX4_turnAt : List Cond := .code yX4_turnAt cX4_turnAt 2 (some .int) :: ([.fieldLink RX4 10 "BlockClerks" "office" "LBlockClerks$Office;", .fieldLink RX4 71 "BlockClerks$Office" "numbers" "LBlockClerks$Numbers;", .methodLink RX4 87 yX1_givenIn, .instanceMethod yX1_givenIn, .selects RX1 yX1_givenIn yX1_givenIn, .initialized RX1, .code yX1_givenIn cX1_givenIn 2 (some .int), .fieldLink RX1 30 "BlockClerks$Numbers" "turns" "I", .fieldLink RX1 27 "BlockClerks$Numbers" "inTurn" "[I"] ++ wsX40 ++ wsX20 ++ wsX10)
def wsX4_among : List Cond := .code yX4_among cX4_among 6 (some .int) :: ([.fieldLink RX4 10 "BlockClerks" "office" "LBlockClerks$Office;", .fieldLink RX4 71 "BlockClerks$Office" "numbers" "LBlockClerks$Numbers;", .methodLink RX4 90 yX1_inState, .instanceMethod yX1_inState, .selects RX1 yX1_inState yX1_inState, .initialized RX1, .code yX1_inState cX1_inState 6 (some .int), .methodLink RX1 49 Lib.Math.max.name, .static Lib.Math.max.name, .initialized "java/lang/Math", .code Lib.Math.max.name Lib.Math.max.code 2 (some .int), .fieldLink RX1 9 "BlockClerks$Numbers" "state" "[I", .methodLink RX4 93 yX1_withReason, .instanceMethod yX1_withReason, .selects RX1 yX1_withReason yX1_withReason, .code yX1_withReason cX1_withReason 6 (some .int), .fieldLink RX1 18 "BlockClerks$Numbers" "reason" "[I"] ++ wsX40 ++ wsX20 ++ wsX10)
def wsX4_count_r1 : List Cond := [Cond.fieldLink RX4 23 "BlockClerks" "kept" "I", Cond.fieldLink RX4 30 "BlockClerks" "script" "LBlockClerks$Script;", Cond.fieldLink RX4 96 "BlockClerks$Script" "length" "I", Cond.fieldLink RX4 10 "BlockClerks" "office" "LBlockClerks$Office;", Cond.methodLink RX4 99 yX2_tally, Cond.instanceMethod yX2_tally, Cond.selects RX2 yX2_tally yX2_tally, Cond.initialized RX2, Cond.code yX2_tally cX2_tally 2 (some .int), Cond.fieldLink RX2 24 "BlockClerks$Office" "clerkCount" "I", Cond.fieldLink RX2 32 "BlockClerks$Office" "today" "I", Cond.fieldLink RX2 12 "BlockClerks$Office" "numbers" "LBlockClerks$Numbers;", Cond.fieldLink RX2 154 "BlockClerks$Numbers" "turns" "I", Cond.fieldLink RX2 82 "BlockClerks$Numbers" "firstNew" "I", Cond.methodLink RX2 75 yX1_inState, Cond.instanceMethod yX1_inState, Cond.selects RX1 yX1_inState yX1_inState, Cond.initialized RX1, Cond.code yX1_inState cX1_inState 6 (some .int), Cond.methodLink RX1 49 Lib.Math.max.name, Cond.static Lib.Math.max.name, Cond.initialized "java/lang/Math", Cond.code Lib.Math.max.name Lib.Math.max.code 2 (some .int), Cond.fieldLink RX1 9 "BlockClerks$Numbers" "state" "[I"]
def wsX4_count_r2 : List Cond := [Cond.methodLink RX2 157 yX1_lateOnes, Cond.instanceMethod yX1_lateOnes, Cond.selects RX1 yX1_lateOnes yX1_lateOnes, Cond.code yX1_lateOnes cX1_lateOnes 4 (some .int), Cond.fieldLink RX1 27 "BlockClerks$Numbers" "inTurn" "[I", Cond.fieldLink RX1 30 "BlockClerks$Numbers" "turns" "I", Cond.methodLink RX2 160 yX1_givenWithoutGap, Cond.instanceMethod yX1_givenWithoutGap, Cond.selects RX1 yX1_givenWithoutGap yX1_givenWithoutGap, Cond.code yX1_givenWithoutGap cX1_givenWithoutGap 2 (some .int), Cond.methodLink RX2 163 yX1_rows, Cond.instanceMethod yX1_rows, Cond.selects RX1 yX1_rows yX1_rows, Cond.code yX1_rows cX1_rows 4 (some .int), Cond.methodLink RX1 63 yX1_startsRow, Cond.instanceMethod yX1_startsRow, Cond.selects RX1 yX1_startsRow yX1_startsRow, Cond.code yX1_startsRow cX1_startsRow 3 (some .boolean), Cond.methodLink RX1 52 yX1_isNumber, Cond.static yX1_isNumber, Cond.code yX1_isNumber cX1_isNumber 1 (some .boolean), Cond.methodLink RX1 60 yX1_goesOn, Cond.instanceMethod yX1_goesOn, Cond.selects RX1 yX1_goesOn yX1_goesOn]
def wsX4_count_r3 : List Cond := [Cond.code yX1_goesOn cX1_goesOn 2 (some .boolean), Cond.fieldLink RX1 15 "BlockClerks$Numbers" "owner" "[I", Cond.fieldLink RX1 18 "BlockClerks$Numbers" "reason" "[I", Cond.methodLink RX2 166 yX2_settingAt, Cond.instanceMethod yX2_settingAt, Cond.selects RX2 yX2_settingAt yX2_settingAt, Cond.code yX2_settingAt cX2_settingAt 3 (some .int), Cond.fieldLink RX2 28 "BlockClerks$Office" "settings" "[I"]
def wsX4_count : List Cond := .code yX4_count cX4_count 2 (some .int) :: ((wsX4_count_r1 ++ (wsX4_count_r2 ++ wsX4_count_r3)) ++ wsX40 ++ wsX30 ++ wsX20 ++ wsX10)
def wsX4_next_r1 : List Cond := [Cond.fieldLink RX4 10 "BlockClerks" "office" "LBlockClerks$Office;", Cond.methodLink RX4 102 yX2_upcoming, Cond.instanceMethod yX2_upcoming, Cond.selects RX2 yX2_upcoming yX2_upcoming, Cond.initialized RX2, Cond.code yX2_upcoming cX2_upcoming 3 (some .int), Cond.fieldLink RX2 20 "BlockClerks$Office" "clerks" "[LBlockClerks$Clerk;", Cond.fieldLink RX2 106 "BlockClerks$Clerk" "low" "I", Cond.methodLink RX2 52 yX2_isClerk, Cond.instanceMethod yX2_isClerk, Cond.selects RX2 yX2_isClerk yX2_isClerk, Cond.code yX2_isClerk cX2_isClerk 2 (some .boolean), Cond.fieldLink RX2 24 "BlockClerks$Office" "clerkCount" "I", Cond.methodLink RX2 60 yX0_held, Cond.instanceMethod yX0_held, Cond.selects RX0 yX0_held yX0_held, Cond.initialized RX0, Cond.code yX0_held cX0_held 1 (some .int), Cond.fieldLink RX0 18 "BlockClerks$Clerk" "high" "I", Cond.fieldLink RX0 15 "BlockClerks$Clerk" "low" "I", Cond.methodLink RX2 85 yX2_startOfBlock, Cond.instanceMethod yX2_startOfBlock, Cond.selects RX2 yX2_startOfBlock yX2_startOfBlock, Cond.code yX2_startOfBlock cX2_startOfBlock 2 (some .int)]
def wsX4_next_r2 : List Cond := [Cond.fieldLink RX2 28 "BlockClerks$Office" "settings" "[I", Cond.fieldLink RX2 12 "BlockClerks$Office" "numbers" "LBlockClerks$Numbers;", Cond.fieldLink RX2 82 "BlockClerks$Numbers" "firstNew" "I", Cond.methodLink RX2 79 yX1_lowestFree, Cond.instanceMethod yX1_lowestFree, Cond.selects RX1 yX1_lowestFree yX1_lowestFree, Cond.initialized RX1, Cond.code yX1_lowestFree cX1_lowestFree 2 (some .int), Cond.fieldLink RX1 34 "BlockClerks$Numbers" "firstNew" "I", Cond.fieldLink RX1 9 "BlockClerks$Numbers" "state" "[I", Cond.methodLink RX2 88 yX1_isNumber, Cond.static yX1_isNumber, Cond.code yX1_isNumber cX1_isNumber 1 (some .boolean)]
def wsX4_next : List Cond := .code yX4_next cX4_next 2 (some .int) :: ((wsX4_next_r1 ++ wsX4_next_r2) ++ wsX40 ++ wsX20 ++ wsX00 ++ wsX10)
def wsX4_cost_r1 : List Cond := [Cond.fieldLink RX4 10 "BlockClerks" "office" "LBlockClerks$Office;", Cond.fieldLink RX4 16 "BlockClerks" "trial" "LBlockClerks$Office;", Cond.methodLink RX4 105 yX2_isClerk, Cond.instanceMethod yX2_isClerk, Cond.selects RX2 yX2_isClerk yX2_isClerk, Cond.initialized RX2, Cond.code yX2_isClerk cX2_isClerk 2 (some .boolean), Cond.fieldLink RX2 24 "BlockClerks$Office" "clerkCount" "I", Cond.fieldLink RX2 20 "BlockClerks$Office" "clerks" "[LBlockClerks$Clerk;", Cond.methodLink RX4 40 yX2_become, Cond.instanceMethod yX2_become, Cond.selects RX2 yX2_become yX2_become, Cond.code yX2_become cX2_become 3 none, Cond.fieldLink RX2 12 "BlockClerks$Office" "numbers" "LBlockClerks$Numbers;", Cond.fieldLink RX2 28 "BlockClerks$Office" "settings" "[I", Cond.methodLink RX2 43 arraycopyName, Cond.native arraycopyName, Cond.static arraycopyName, Cond.initialized "java/lang/System", Cond.fieldLink RX2 32 "BlockClerks$Office" "today" "I", Cond.methodLink RX2 36 yX1_become, Cond.instanceMethod yX1_become, Cond.selects RX1 yX1_become yX1_become, Cond.initialized RX1]
def wsX4_cost_r2 : List Cond := [Cond.code yX1_become cX1_become 2 none, Cond.fieldLink RX1 9 "BlockClerks$Numbers" "state" "[I", Cond.methodLink RX1 37 arraycopyName, Cond.fieldLink RX1 15 "BlockClerks$Numbers" "owner" "[I", Cond.fieldLink RX1 18 "BlockClerks$Numbers" "reason" "[I", Cond.fieldLink RX1 21 "BlockClerks$Numbers" "turn" "[I", Cond.fieldLink RX1 24 "BlockClerks$Numbers" "day" "[I", Cond.fieldLink RX1 27 "BlockClerks$Numbers" "inTurn" "[I", Cond.fieldLink RX1 30 "BlockClerks$Numbers" "turns" "I", Cond.fieldLink RX1 34 "BlockClerks$Numbers" "firstNew" "I", Cond.methodLink RX2 40 yX0_become, Cond.instanceMethod yX0_become, Cond.selects RX0 yX0_become yX0_become, Cond.initialized RX0, Cond.code yX0_become cX0_become 2 none, Cond.fieldLink RX0 9 "BlockClerks$Clerk" "kind" "I", Cond.fieldLink RX0 15 "BlockClerks$Clerk" "low" "I", Cond.fieldLink RX0 18 "BlockClerks$Clerk" "high" "I", Cond.fieldLink RX0 21 "BlockClerks$Clerk" "mark" "I", Cond.fieldLink RX0 24 "BlockClerks$Clerk" "given" "I", Cond.fieldLink RX0 27 "BlockClerks$Clerk" "blocks" "I", Cond.fieldLink RX0 30 "BlockClerks$Clerk" "latest" "I", Cond.methodLink RX4 51 yX2_serve, Cond.instanceMethod yX2_serve]
def wsX4_cost_r3 : List Cond := [Cond.selects RX2 yX2_serve yX2_serve, Cond.code yX2_serve cX2_serve 5 (some .int), Cond.methodLink RX2 52 yX2_isClerk, Cond.methodLink RX2 56 yX2_available, Cond.instanceMethod yX2_available, Cond.selects RX2 yX2_available yX2_available, Cond.code yX2_available cX2_available 3 (some .int), Cond.methodLink RX2 75 yX1_inState, Cond.instanceMethod yX1_inState, Cond.selects RX1 yX1_inState yX1_inState, Cond.code yX1_inState cX1_inState 6 (some .int), Cond.methodLink RX1 49 Lib.Math.max.name, Cond.static Lib.Math.max.name, Cond.initialized "java/lang/Math", Cond.code Lib.Math.max.name Lib.Math.max.code 2 (some .int), Cond.methodLink RX2 60 yX0_held, Cond.instanceMethod yX0_held, Cond.selects RX0 yX0_held yX0_held, Cond.code yX0_held cX0_held 1 (some .int), Cond.methodLink RX2 64 yX2_handOut, Cond.instanceMethod yX2_handOut, Cond.selects RX2 yX2_handOut yX2_handOut, Cond.code yX2_handOut cX2_handOut 4 none, Cond.methodLink RX2 85 yX2_startOfBlock]
def wsX4_cost_r4 : List Cond := [Cond.instanceMethod yX2_startOfBlock, Cond.selects RX2 yX2_startOfBlock yX2_startOfBlock, Cond.code yX2_startOfBlock cX2_startOfBlock 2 (some .int), Cond.fieldLink RX2 82 "BlockClerks$Numbers" "firstNew" "I", Cond.methodLink RX2 79 yX1_lowestFree, Cond.instanceMethod yX1_lowestFree, Cond.selects RX1 yX1_lowestFree yX1_lowestFree, Cond.code yX1_lowestFree cX1_lowestFree 2 (some .int), Cond.methodLink RX2 88 yX1_isNumber, Cond.static yX1_isNumber, Cond.code yX1_isNumber cX1_isNumber 1 (some .boolean), Cond.methodLink RX2 91 yX1_lastOfRow, Cond.instanceMethod yX1_lastOfRow, Cond.selects RX1 yX1_lastOfRow yX1_lastOfRow, Cond.code yX1_lastOfRow cX1_lastOfRow 4 (some .int), Cond.methodLink RX1 60 yX1_goesOn, Cond.instanceMethod yX1_goesOn, Cond.selects RX1 yX1_goesOn yX1_goesOn, Cond.code yX1_goesOn cX1_goesOn 2 (some .boolean), Cond.methodLink RX2 95 yX1_put, Cond.instanceMethod yX1_put, Cond.selects RX1 yX1_put yX1_put, Cond.code yX1_put cX1_put 8 none, Cond.methodLink RX1 43 Lib.Math.min.name]
def wsX4_cost_r5 : List Cond := [Cond.static Lib.Math.min.name, Cond.code Lib.Math.min.name Lib.Math.min.code 2 (some .int), Cond.methodLink RX2 99 yX0_receive, Cond.instanceMethod yX0_receive, Cond.selects RX0 yX0_receive yX0_receive, Cond.code yX0_receive cX0_receive 3 none, Cond.methodLink RX2 68 yX0_giveLowest, Cond.instanceMethod yX0_giveLowest, Cond.selects RX0 yX0_giveLowest yX0_giveLowest, Cond.code yX0_giveLowest cX0_giveLowest 3 (some .int), Cond.methodLink RX0 33 Lib.Math.min.name, Cond.methodLink RX2 71 yX1_give, Cond.instanceMethod yX1_give, Cond.selects RX1 yX1_give yX1_give, Cond.code yX1_give cX1_give 4 none, Cond.methodLink RX1 52 yX1_isNumber, Cond.methodLink RX1 56 yX1_put, Cond.methodLink RX4 109 yX2_lossOf, Cond.instanceMethod yX2_lossOf, Cond.selects RX2 yX2_lossOf yX2_lossOf, Cond.code yX2_lossOf cX2_lossOf 2 (some .int), Cond.methodLink RX2 103 yX0_loss, Cond.instanceMethod yX0_loss, Cond.selects RX0 yX0_loss yX0_loss]
def wsX4_cost_r6 : List Cond := [Cond.code yX0_loss cX0_loss 1 (some .int), Cond.methodLink RX0 43 Lib.Math.max.name, Cond.methodLink RX0 39 yX0_lastLost, Cond.instanceMethod yX0_lastLost, Cond.selects RX0 yX0_lastLost yX0_lastLost, Cond.code yX0_lastLost cX0_lastLost 1 (some .int)]
def wsX4_cost : List Cond := .code yX4_cost cX4_cost 4 (some .int) :: ((wsX4_cost_r1 ++ (wsX4_cost_r2 ++ (wsX4_cost_r3 ++ (wsX4_cost_r4 ++ (wsX4_cost_r5 ++ wsX4_cost_r6))))) ++ wsX40 ++ wsX20 ++ wsX10 ++ wsX00)
def wsX4_worst_r1 : List Cond := [Cond.fieldLink RX4 10 "BlockClerks" "office" "LBlockClerks$Office;", Cond.methodLink RX4 112 yX2_mostForgetful, Cond.instanceMethod yX2_mostForgetful, Cond.selects RX2 yX2_mostForgetful yX2_mostForgetful, Cond.initialized RX2, Cond.code yX2_mostForgetful cX2_mostForgetful 4 (some .int), Cond.fieldLink RX2 20 "BlockClerks$Office" "clerks" "[LBlockClerks$Clerk;", Cond.fieldLink RX2 24 "BlockClerks$Office" "clerkCount" "I", Cond.methodLink RX2 103 yX0_loss, Cond.instanceMethod yX0_loss, Cond.selects RX0 yX0_loss yX0_loss, Cond.initialized RX0, Cond.code yX0_loss cX0_loss 1 (some .int), Cond.fieldLink RX0 15 "BlockClerks$Clerk" "low" "I", Cond.methodLink RX0 43 Lib.Math.max.name, Cond.static Lib.Math.max.name, Cond.initialized "java/lang/Math", Cond.code Lib.Math.max.name Lib.Math.max.code 2 (some .int), Cond.methodLink RX0 39 yX0_lastLost, Cond.instanceMethod yX0_lastLost, Cond.selects RX0 yX0_lastLost yX0_lastLost, Cond.code yX0_lastLost cX0_lastLost 1 (some .int), Cond.fieldLink RX0 21 "BlockClerks$Clerk" "mark" "I", Cond.fieldLink RX0 18 "BlockClerks$Clerk" "high" "I"]
def wsX4_worst_r2 : List Cond := [Cond.methodLink RX0 33 Lib.Math.min.name, Cond.static Lib.Math.min.name, Cond.code Lib.Math.min.name Lib.Math.min.code 2 (some .int)]
def wsX4_worst : List Cond := .code yX4_worst cX4_worst 1 (some .int) :: ((wsX4_worst_r1 ++ wsX4_worst_r2) ++ wsX40 ++ wsX20 ++ wsX00)
def wsX4_undo_r1 : List Cond := [Cond.fieldLink RX4 23 "BlockClerks" "kept" "I", Cond.fieldLink RX4 19 "BlockClerks" "history" "[LBlockClerks$Office;", Cond.fieldLink RX4 10 "BlockClerks" "office" "LBlockClerks$Office;", Cond.methodLink RX4 40 yX2_become, Cond.instanceMethod yX2_become, Cond.selects RX2 yX2_become yX2_become, Cond.initialized RX2, Cond.code yX2_become cX2_become 3 none, Cond.fieldLink RX2 12 "BlockClerks$Office" "numbers" "LBlockClerks$Numbers;", Cond.fieldLink RX2 20 "BlockClerks$Office" "clerks" "[LBlockClerks$Clerk;", Cond.fieldLink RX2 24 "BlockClerks$Office" "clerkCount" "I", Cond.fieldLink RX2 28 "BlockClerks$Office" "settings" "[I", Cond.methodLink RX2 43 arraycopyName, Cond.native arraycopyName, Cond.static arraycopyName, Cond.initialized "java/lang/System", Cond.fieldLink RX2 32 "BlockClerks$Office" "today" "I", Cond.methodLink RX2 36 yX1_become, Cond.instanceMethod yX1_become, Cond.selects RX1 yX1_become yX1_become, Cond.initialized RX1, Cond.code yX1_become cX1_become 2 none, Cond.fieldLink RX1 9 "BlockClerks$Numbers" "state" "[I", Cond.methodLink RX1 37 arraycopyName]
def wsX4_undo_r2 : List Cond := [Cond.fieldLink RX1 15 "BlockClerks$Numbers" "owner" "[I", Cond.fieldLink RX1 18 "BlockClerks$Numbers" "reason" "[I", Cond.fieldLink RX1 21 "BlockClerks$Numbers" "turn" "[I", Cond.fieldLink RX1 24 "BlockClerks$Numbers" "day" "[I", Cond.fieldLink RX1 27 "BlockClerks$Numbers" "inTurn" "[I", Cond.fieldLink RX1 30 "BlockClerks$Numbers" "turns" "I", Cond.fieldLink RX1 34 "BlockClerks$Numbers" "firstNew" "I", Cond.methodLink RX2 40 yX0_become, Cond.instanceMethod yX0_become, Cond.selects RX0 yX0_become yX0_become, Cond.initialized RX0, Cond.code yX0_become cX0_become 2 none, Cond.fieldLink RX0 9 "BlockClerks$Clerk" "kind" "I", Cond.fieldLink RX0 15 "BlockClerks$Clerk" "low" "I", Cond.fieldLink RX0 18 "BlockClerks$Clerk" "high" "I", Cond.fieldLink RX0 21 "BlockClerks$Clerk" "mark" "I", Cond.fieldLink RX0 24 "BlockClerks$Clerk" "given" "I", Cond.fieldLink RX0 27 "BlockClerks$Clerk" "blocks" "I", Cond.fieldLink RX0 30 "BlockClerks$Clerk" "latest" "I"]
def wsX4_undo : List Cond := .code yX4_undo cX4_undo 1 (some .int) :: ((wsX4_undo_r1 ++ wsX4_undo_r2) ++ wsX40 ++ wsX20 ++ wsX10 ++ wsX00)
def wsX4_type : List Cond := .code yX4_type cX4_type 2 (some .int) :: ([.fieldLink RX4 30 "BlockClerks" "script" "LBlockClerks$Script;", .methodLink RX4 115 yX3_append, .instanceMethod yX3_append, .selects RX3 yX3_append yX3_append, .initialized RX3, .code yX3_append cX3_append 2 (some .int), .fieldLink RX3 15 "BlockClerks$Script" "length" "I", .fieldLink RX3 9 "BlockClerks$Script" "signs" "[C"] ++ wsX40 ++ wsX30)
def wsX4_clearText : List Cond := .code yX4_clearText cX4_clearText 2 (some .int) :: ([.fieldLink RX4 30 "BlockClerks" "script" "LBlockClerks$Script;", .fieldLink RX4 96 "BlockClerks$Script" "length" "I"] ++ wsX40 ++ wsX30)
def wsX4_perform_r1 : List Cond := [Cond.fieldLink RX4 30 "BlockClerks" "script" "LBlockClerks$Script;", Cond.fieldLink RX4 143 "BlockClerks$Script" "verb" "I", Cond.fieldLink RX4 16 "BlockClerks" "trial" "LBlockClerks$Office;", Cond.fieldLink RX4 146 "BlockClerks$Script" "first" "I", Cond.fieldLink RX4 149 "BlockClerks$Script" "second" "I", Cond.methodLink RX4 44 yX2_addClerk, Cond.instanceMethod yX2_addClerk, Cond.selects RX2 yX2_addClerk yX2_addClerk, Cond.initialized RX2, Cond.code yX2_addClerk cX2_addClerk 2 (some .int), Cond.fieldLink RX2 24 "BlockClerks$Office" "clerkCount" "I", Cond.fieldLink RX2 20 "BlockClerks$Office" "clerks" "[LBlockClerks$Clerk;", Cond.fieldLink RX2 49 "BlockClerks$Clerk" "kind" "I", Cond.methodLink RX4 51 yX2_serve, Cond.instanceMethod yX2_serve, Cond.selects RX2 yX2_serve yX2_serve, Cond.code yX2_serve cX2_serve 5 (some .int), Cond.fieldLink RX2 28 "BlockClerks$Office" "settings" "[I", Cond.fieldLink RX2 12 "BlockClerks$Office" "numbers" "LBlockClerks$Numbers;", Cond.fieldLink RX2 32 "BlockClerks$Office" "today" "I", Cond.methodLink RX2 52 yX2_isClerk, Cond.instanceMethod yX2_isClerk, Cond.selects RX2 yX2_isClerk yX2_isClerk, Cond.code yX2_isClerk cX2_isClerk 2 (some .boolean)]
def wsX4_perform_r2 : List Cond := [Cond.methodLink RX2 56 yX2_available, Cond.instanceMethod yX2_available, Cond.selects RX2 yX2_available yX2_available, Cond.code yX2_available cX2_available 3 (some .int), Cond.methodLink RX2 75 yX1_inState, Cond.instanceMethod yX1_inState, Cond.selects RX1 yX1_inState yX1_inState, Cond.initialized RX1, Cond.code yX1_inState cX1_inState 6 (some .int), Cond.methodLink RX1 49 Lib.Math.max.name, Cond.static Lib.Math.max.name, Cond.initialized "java/lang/Math", Cond.code Lib.Math.max.name Lib.Math.max.code 2 (some .int), Cond.fieldLink RX1 9 "BlockClerks$Numbers" "state" "[I", Cond.methodLink RX2 60 yX0_held, Cond.instanceMethod yX0_held, Cond.selects RX0 yX0_held yX0_held, Cond.initialized RX0, Cond.code yX0_held cX0_held 1 (some .int), Cond.fieldLink RX0 18 "BlockClerks$Clerk" "high" "I", Cond.fieldLink RX0 15 "BlockClerks$Clerk" "low" "I", Cond.methodLink RX2 64 yX2_handOut, Cond.instanceMethod yX2_handOut, Cond.selects RX2 yX2_handOut yX2_handOut]
def wsX4_perform_r3 : List Cond := [Cond.code yX2_handOut cX2_handOut 4 none, Cond.methodLink RX2 85 yX2_startOfBlock, Cond.instanceMethod yX2_startOfBlock, Cond.selects RX2 yX2_startOfBlock yX2_startOfBlock, Cond.code yX2_startOfBlock cX2_startOfBlock 2 (some .int), Cond.fieldLink RX2 82 "BlockClerks$Numbers" "firstNew" "I", Cond.methodLink RX2 79 yX1_lowestFree, Cond.instanceMethod yX1_lowestFree, Cond.selects RX1 yX1_lowestFree yX1_lowestFree, Cond.code yX1_lowestFree cX1_lowestFree 2 (some .int), Cond.fieldLink RX1 34 "BlockClerks$Numbers" "firstNew" "I", Cond.methodLink RX2 88 yX1_isNumber, Cond.static yX1_isNumber, Cond.code yX1_isNumber cX1_isNumber 1 (some .boolean), Cond.methodLink RX2 91 yX1_lastOfRow, Cond.instanceMethod yX1_lastOfRow, Cond.selects RX1 yX1_lastOfRow yX1_lastOfRow, Cond.code yX1_lastOfRow cX1_lastOfRow 4 (some .int), Cond.methodLink RX1 60 yX1_goesOn, Cond.instanceMethod yX1_goesOn, Cond.selects RX1 yX1_goesOn yX1_goesOn, Cond.code yX1_goesOn cX1_goesOn 2 (some .boolean), Cond.fieldLink RX1 15 "BlockClerks$Numbers" "owner" "[I", Cond.fieldLink RX1 18 "BlockClerks$Numbers" "reason" "[I"]
def wsX4_perform_r4 : List Cond := [Cond.methodLink RX2 95 yX1_put, Cond.instanceMethod yX1_put, Cond.selects RX1 yX1_put yX1_put, Cond.code yX1_put cX1_put 8 none, Cond.methodLink RX1 43 Lib.Math.min.name, Cond.static Lib.Math.min.name, Cond.code Lib.Math.min.name Lib.Math.min.code 2 (some .int), Cond.methodLink RX2 99 yX0_receive, Cond.instanceMethod yX0_receive, Cond.selects RX0 yX0_receive yX0_receive, Cond.code yX0_receive cX0_receive 3 none, Cond.fieldLink RX0 9 "BlockClerks$Clerk" "kind" "I", Cond.fieldLink RX0 21 "BlockClerks$Clerk" "mark" "I", Cond.fieldLink RX0 27 "BlockClerks$Clerk" "blocks" "I", Cond.methodLink RX2 68 yX0_giveLowest, Cond.instanceMethod yX0_giveLowest, Cond.selects RX0 yX0_giveLowest yX0_giveLowest, Cond.code yX0_giveLowest cX0_giveLowest 3 (some .int), Cond.fieldLink RX0 24 "BlockClerks$Clerk" "given" "I", Cond.fieldLink RX0 30 "BlockClerks$Clerk" "latest" "I", Cond.methodLink RX0 33 Lib.Math.min.name, Cond.methodLink RX2 71 yX1_give, Cond.instanceMethod yX1_give, Cond.selects RX1 yX1_give yX1_give]
def wsX4_perform_r5 : List Cond := [Cond.code yX1_give cX1_give 4 none, Cond.fieldLink RX1 30 "BlockClerks$Numbers" "turns" "I", Cond.fieldLink RX1 27 "BlockClerks$Numbers" "inTurn" "[I", Cond.fieldLink RX1 21 "BlockClerks$Numbers" "turn" "[I", Cond.fieldLink RX1 24 "BlockClerks$Numbers" "day" "[I", Cond.methodLink RX1 52 yX1_isNumber, Cond.methodLink RX1 56 yX1_put, Cond.methodLink RX4 55 yX2_letForget, Cond.instanceMethod yX2_letForget, Cond.selects RX2 yX2_letForget yX2_letForget, Cond.code yX2_letForget cX2_letForget 4 (some .int), Cond.fieldLink RX2 106 "BlockClerks$Clerk" "low" "I", Cond.methodLink RX2 103 yX0_loss, Cond.instanceMethod yX0_loss, Cond.selects RX0 yX0_loss yX0_loss, Cond.code yX0_loss cX0_loss 1 (some .int), Cond.methodLink RX0 43 Lib.Math.max.name, Cond.methodLink RX0 39 yX0_lastLost, Cond.instanceMethod yX0_lastLost, Cond.selects RX0 yX0_lastLost yX0_lastLost, Cond.code yX0_lastLost cX0_lastLost 1 (some .int), Cond.methodLink RX2 109 yX0_lastLost, Cond.methodLink RX4 58 yX2_takeBack, Cond.instanceMethod yX2_takeBack]
def wsX4_perform_r6 : List Cond := [Cond.selects RX2 yX2_takeBack yX2_takeBack, Cond.code yX2_takeBack cX2_takeBack 4 (some .int), Cond.fieldLink RX2 112 "BlockClerks$Clerk" "high" "I", Cond.methodLink RX2 115 yX0_drop, Cond.instanceMethod yX0_drop, Cond.selects RX0 yX0_drop yX0_drop, Cond.code yX0_drop cX0_drop 1 none, Cond.methodLink RX4 61 yX2_cancel, Cond.instanceMethod yX2_cancel, Cond.selects RX2 yX2_cancel yX2_cancel, Cond.code yX2_cancel cX2_cancel 2 (some .int), Cond.fieldLink RX2 118 "BlockClerks$Numbers" "state" "[I", Cond.fieldLink RX2 121 "BlockClerks$Numbers" "owner" "[I", Cond.methodLink RX4 64 yX2_endDay, Cond.instanceMethod yX2_endDay, Cond.selects RX2 yX2_endDay yX2_endDay, Cond.code yX2_endDay cX2_endDay 3 (some .int), Cond.methodLink RX2 124 yX1_closeAll, Cond.instanceMethod yX1_closeAll, Cond.selects RX1 yX1_closeAll yX1_closeAll, Cond.code yX1_closeAll cX1_closeAll 3 (some .int)]
def wsX4_perform : List Cond := .code yX4_perform cX4_perform 1 (some .int) :: ((wsX4_perform_r1 ++ (wsX4_perform_r2 ++ (wsX4_perform_r3 ++ (wsX4_perform_r4 ++ (wsX4_perform_r5 ++ wsX4_perform_r6))))) ++ wsX40 ++ wsX30 ++ wsX20 ++ wsX00 ++ wsX10)
def wsX4_reasonOf : List Cond := .code yX4_reasonOf cX4_reasonOf 1 (some .int) :: ([])
def wsX4_rehearse_r1 : List Cond := [Cond.fieldLink RX4 16 "BlockClerks" "trial" "LBlockClerks$Office;", Cond.fieldLink RX4 10 "BlockClerks" "office" "LBlockClerks$Office;", Cond.fieldLink RX4 30 "BlockClerks" "script" "LBlockClerks$Script;", Cond.fieldLink RX4 34 "BlockClerks" "faultPosition" "I", Cond.fieldLink RX4 37 "BlockClerks" "faultReason" "I", Cond.fieldLink RX4 130 "BlockClerks$Script" "at" "I", Cond.fieldLink RX4 96 "BlockClerks$Script" "length" "I", Cond.methodLink RX4 40 yX2_become, Cond.instanceMethod yX2_become, Cond.selects RX2 yX2_become yX2_become, Cond.initialized RX2, Cond.code yX2_become cX2_become 3 none, Cond.fieldLink RX2 12 "BlockClerks$Office" "numbers" "LBlockClerks$Numbers;", Cond.fieldLink RX2 20 "BlockClerks$Office" "clerks" "[LBlockClerks$Clerk;", Cond.fieldLink RX2 24 "BlockClerks$Office" "clerkCount" "I", Cond.fieldLink RX2 28 "BlockClerks$Office" "settings" "[I", Cond.methodLink RX2 43 arraycopyName, Cond.native arraycopyName, Cond.static arraycopyName, Cond.initialized "java/lang/System", Cond.fieldLink RX2 32 "BlockClerks$Office" "today" "I", Cond.methodLink RX2 36 yX1_become, Cond.instanceMethod yX1_become, Cond.selects RX1 yX1_become yX1_become]
def wsX4_rehearse_r2 : List Cond := [Cond.initialized RX1, Cond.code yX1_become cX1_become 2 none, Cond.fieldLink RX1 9 "BlockClerks$Numbers" "state" "[I", Cond.methodLink RX1 37 arraycopyName, Cond.fieldLink RX1 15 "BlockClerks$Numbers" "owner" "[I", Cond.fieldLink RX1 18 "BlockClerks$Numbers" "reason" "[I", Cond.fieldLink RX1 21 "BlockClerks$Numbers" "turn" "[I", Cond.fieldLink RX1 24 "BlockClerks$Numbers" "day" "[I", Cond.fieldLink RX1 27 "BlockClerks$Numbers" "inTurn" "[I", Cond.fieldLink RX1 30 "BlockClerks$Numbers" "turns" "I", Cond.fieldLink RX1 34 "BlockClerks$Numbers" "firstNew" "I", Cond.methodLink RX2 40 yX0_become, Cond.instanceMethod yX0_become, Cond.selects RX0 yX0_become yX0_become, Cond.initialized RX0, Cond.code yX0_become cX0_become 2 none, Cond.fieldLink RX0 9 "BlockClerks$Clerk" "kind" "I", Cond.fieldLink RX0 15 "BlockClerks$Clerk" "low" "I", Cond.fieldLink RX0 18 "BlockClerks$Clerk" "high" "I", Cond.fieldLink RX0 21 "BlockClerks$Clerk" "mark" "I", Cond.fieldLink RX0 24 "BlockClerks$Clerk" "given" "I", Cond.fieldLink RX0 27 "BlockClerks$Clerk" "blocks" "I", Cond.fieldLink RX0 30 "BlockClerks$Clerk" "latest" "I", Cond.methodLink RX4 127 yX3_rewind]
def wsX4_rehearse_r3 : List Cond := [Cond.instanceMethod yX3_rewind, Cond.selects RX3 yX3_rewind yX3_rewind, Cond.initialized RX3, Cond.code yX3_rewind cX3_rewind 1 none, Cond.fieldLink RX3 19 "BlockClerks$Script" "at" "I", Cond.methodLink RX4 133 yX3_readCommand, Cond.instanceMethod yX3_readCommand, Cond.selects RX3 yX3_readCommand yX3_readCommand, Cond.code yX3_readCommand cX3_readCommand 1 (some .boolean), Cond.fieldLink RX3 25 "BlockClerks$Script" "first" "I", Cond.fieldLink RX3 28 "BlockClerks$Script" "second" "I", Cond.fieldLink RX3 22 "BlockClerks$Script" "verb" "I", Cond.methodLink RX3 33 yX3_takeWord, Cond.instanceMethod yX3_takeWord, Cond.selects RX3 yX3_takeWord yX3_takeWord, Cond.code yX3_takeWord cX3_takeWord 3 (some .boolean), Cond.methodLink RX3 58 yJ0_length_8abf5, Cond.instanceMethod yJ0_length_8abf5, Cond.selects RJ0 yJ0_length_8abf5 yJ0_length_8abf5, Cond.initialized RJ0, Cond.code yJ0_length_8abf5 cJ0_length_8abf5 1 (some .int), Cond.fieldLink RJ0 9 "java/lang/String" "value" "[B", Cond.methodLink RJ0 335 yJ0_coder_7d493, Cond.instanceMethod yJ0_coder_7d493]
def wsX4_rehearse_r4 : List Cond := [Cond.selects RJ0 yJ0_coder_7d493 yJ0_coder_7d493, Cond.code yJ0_coder_7d493 cJ0_coder_7d493 1 (some .byte), Cond.fieldLink RJ0 38 "java/lang/String" "COMPACT_STRINGS" "Z", Cond.fieldLink RJ0 15 "java/lang/String" "coder" "B", Cond.methodLink RX3 62 yX3_signAt, Cond.instanceMethod yX3_signAt, Cond.selects RX3 yX3_signAt yX3_signAt, Cond.code yX3_signAt cX3_signAt 2 (some .int), Cond.fieldLink RX3 15 "BlockClerks$Script" "length" "I", Cond.fieldLink RX3 9 "BlockClerks$Script" "signs" "[C", Cond.methodLink RX3 66 yJ0_charAt_5068e, Cond.instanceMethod yJ0_charAt_5068e, Cond.selects RJ0 yJ0_charAt_5068e yJ0_charAt_5068e, Cond.code yJ0_charAt_5068e cJ0_charAt_5068e 2 (some .char), Cond.methodLink RJ0 492 yJ0_isLatin1_aae02, Cond.instanceMethod yJ0_isLatin1_aae02, Cond.selects RJ0 yJ0_isLatin1_aae02 yJ0_isLatin1_aae02, Cond.code yJ0_isLatin1_aae02 cJ0_isLatin1_aae02 1 (some .boolean), Cond.methodLink RJ0 495 yJ1_charAt_3b067, Cond.static yJ1_charAt_3b067, Cond.initialized RJ1, Cond.code yJ1_charAt_3b067 cJ1_charAt_3b067 2 (some .char), Cond.methodLink RJ1 9 yJ0_checkIndex_df160, Cond.static yJ0_checkIndex_df160]
def wsX4_rehearse_r5 : List Cond := [Cond.code yJ0_checkIndex_df160 cJ0_checkIndex_df160 2 none, Cond.fieldLink RJ0 1053 "jdk/internal/util/Preconditions" "SIOOBE_FORMATTER" "Ljava/util/function/BiFunction;", Cond.methodLink RJ0 1059 yJ3_checkIndex_8e157, Cond.static yJ3_checkIndex_8e157, Cond.initialized RJ3, Cond.code yJ3_checkIndex_8e157 cJ3_checkIndex_8e157 3 (some .int), Cond.methodLink RJ0 498 yJ2_charAt_3b067, Cond.static yJ2_charAt_3b067, Cond.initialized RJ2, Cond.code yJ2_charAt_3b067 cJ2_charAt_3b067 2 (some .char), Cond.methodLink RJ2 67 yJ2_checkIndex_2214a, Cond.static yJ2_checkIndex_2214a, Cond.code yJ2_checkIndex_2214a cJ2_checkIndex_2214a 2 none, Cond.methodLink RJ2 48 yJ2_length_9d52b, Cond.static yJ2_length_9d52b, Cond.code yJ2_length_9d52b cJ2_length_9d52b 1 (some .int), Cond.methodLink RJ2 414 yJ0_checkIndex_df160, Cond.methodLink RJ2 71 yJ2_getChar_3b067, Cond.static yJ2_getChar_3b067, Cond.code yJ2_getChar_3b067 cJ2_getChar_3b067 2 (some .char), Cond.fieldLink RJ2 44 "java/lang/StringUTF16" "$assertionsDisabled" "Z", Cond.fieldLink RJ2 59 "java/lang/StringUTF16" "HI_BYTE_SHIFT" "I", Cond.fieldLink RJ2 63 "java/lang/StringUTF16" "LO_BYTE_SHIFT" "I", Cond.methodLink RX3 37 yX3_takeKind]
def wsX4_rehearse_r6 : List Cond := [Cond.instanceMethod yX3_takeKind, Cond.selects RX3 yX3_takeKind yX3_takeKind, Cond.code yX3_takeKind cX3_takeKind 1 (some .int), Cond.methodLink RX3 43 yX3_takeNumber, Cond.instanceMethod yX3_takeNumber, Cond.selects RX3 yX3_takeNumber yX3_takeNumber, Cond.code yX3_takeNumber cX3_takeNumber 3 (some .int), Cond.methodLink RX3 80 Lib.Math.max.name, Cond.static Lib.Math.max.name, Cond.initialized "java/lang/Math", Cond.code Lib.Math.max.name Lib.Math.max.code 2 (some .int), Cond.methodLink RX3 76 yX3_isDigit, Cond.static yX3_isDigit, Cond.code yX3_isDigit cX3_isDigit 1 (some .boolean), Cond.methodLink RX4 137 yX4_perform, Cond.instanceMethod yX4_perform, Cond.selects RX4 yX4_perform yX4_perform, Cond.initialized RX4, Cond.code yX4_perform cX4_perform 1 (some .int), Cond.fieldLink RX4 143 "BlockClerks$Script" "verb" "I", Cond.fieldLink RX4 146 "BlockClerks$Script" "first" "I", Cond.fieldLink RX4 149 "BlockClerks$Script" "second" "I", Cond.methodLink RX4 44 yX2_addClerk, Cond.instanceMethod yX2_addClerk]
def wsX4_rehearse_r7 : List Cond := [Cond.selects RX2 yX2_addClerk yX2_addClerk, Cond.code yX2_addClerk cX2_addClerk 2 (some .int), Cond.fieldLink RX2 49 "BlockClerks$Clerk" "kind" "I", Cond.methodLink RX4 51 yX2_serve, Cond.instanceMethod yX2_serve, Cond.selects RX2 yX2_serve yX2_serve, Cond.code yX2_serve cX2_serve 5 (some .int), Cond.methodLink RX2 52 yX2_isClerk, Cond.instanceMethod yX2_isClerk, Cond.selects RX2 yX2_isClerk yX2_isClerk, Cond.code yX2_isClerk cX2_isClerk 2 (some .boolean), Cond.methodLink RX2 56 yX2_available, Cond.instanceMethod yX2_available, Cond.selects RX2 yX2_available yX2_available, Cond.code yX2_available cX2_available 3 (some .int), Cond.methodLink RX2 75 yX1_inState, Cond.instanceMethod yX1_inState, Cond.selects RX1 yX1_inState yX1_inState, Cond.code yX1_inState cX1_inState 6 (some .int), Cond.methodLink RX1 49 Lib.Math.max.name, Cond.methodLink RX2 60 yX0_held, Cond.instanceMethod yX0_held, Cond.selects RX0 yX0_held yX0_held, Cond.code yX0_held cX0_held 1 (some .int)]
def wsX4_rehearse_r8 : List Cond := [Cond.methodLink RX2 64 yX2_handOut, Cond.instanceMethod yX2_handOut, Cond.selects RX2 yX2_handOut yX2_handOut, Cond.code yX2_handOut cX2_handOut 4 none, Cond.methodLink RX2 85 yX2_startOfBlock, Cond.instanceMethod yX2_startOfBlock, Cond.selects RX2 yX2_startOfBlock yX2_startOfBlock, Cond.code yX2_startOfBlock cX2_startOfBlock 2 (some .int), Cond.fieldLink RX2 82 "BlockClerks$Numbers" "firstNew" "I", Cond.methodLink RX2 79 yX1_lowestFree, Cond.instanceMethod yX1_lowestFree, Cond.selects RX1 yX1_lowestFree yX1_lowestFree, Cond.code yX1_lowestFree cX1_lowestFree 2 (some .int), Cond.methodLink RX2 88 yX1_isNumber, Cond.static yX1_isNumber, Cond.code yX1_isNumber cX1_isNumber 1 (some .boolean), Cond.methodLink RX2 91 yX1_lastOfRow, Cond.instanceMethod yX1_lastOfRow, Cond.selects RX1 yX1_lastOfRow yX1_lastOfRow, Cond.code yX1_lastOfRow cX1_lastOfRow 4 (some .int), Cond.methodLink RX1 60 yX1_goesOn, Cond.instanceMethod yX1_goesOn, Cond.selects RX1 yX1_goesOn yX1_goesOn, Cond.code yX1_goesOn cX1_goesOn 2 (some .boolean)]
def wsX4_rehearse_r9 : List Cond := [Cond.methodLink RX2 95 yX1_put, Cond.instanceMethod yX1_put, Cond.selects RX1 yX1_put yX1_put, Cond.code yX1_put cX1_put 8 none, Cond.methodLink RX1 43 Lib.Math.min.name, Cond.static Lib.Math.min.name, Cond.code Lib.Math.min.name Lib.Math.min.code 2 (some .int), Cond.methodLink RX2 99 yX0_receive, Cond.instanceMethod yX0_receive, Cond.selects RX0 yX0_receive yX0_receive, Cond.code yX0_receive cX0_receive 3 none, Cond.methodLink RX2 68 yX0_giveLowest, Cond.instanceMethod yX0_giveLowest, Cond.selects RX0 yX0_giveLowest yX0_giveLowest, Cond.code yX0_giveLowest cX0_giveLowest 3 (some .int), Cond.methodLink RX0 33 Lib.Math.min.name, Cond.methodLink RX2 71 yX1_give, Cond.instanceMethod yX1_give, Cond.selects RX1 yX1_give yX1_give, Cond.code yX1_give cX1_give 4 none, Cond.methodLink RX1 52 yX1_isNumber, Cond.methodLink RX1 56 yX1_put, Cond.methodLink RX4 55 yX2_letForget, Cond.instanceMethod yX2_letForget]
def wsX4_rehearse_r10 : List Cond := [Cond.selects RX2 yX2_letForget yX2_letForget, Cond.code yX2_letForget cX2_letForget 4 (some .int), Cond.fieldLink RX2 106 "BlockClerks$Clerk" "low" "I", Cond.methodLink RX2 103 yX0_loss, Cond.instanceMethod yX0_loss, Cond.selects RX0 yX0_loss yX0_loss, Cond.code yX0_loss cX0_loss 1 (some .int), Cond.methodLink RX0 43 Lib.Math.max.name, Cond.methodLink RX0 39 yX0_lastLost, Cond.instanceMethod yX0_lastLost, Cond.selects RX0 yX0_lastLost yX0_lastLost, Cond.code yX0_lastLost cX0_lastLost 1 (some .int), Cond.methodLink RX2 109 yX0_lastLost, Cond.methodLink RX4 58 yX2_takeBack, Cond.instanceMethod yX2_takeBack, Cond.selects RX2 yX2_takeBack yX2_takeBack, Cond.code yX2_takeBack cX2_takeBack 4 (some .int), Cond.fieldLink RX2 112 "BlockClerks$Clerk" "high" "I", Cond.methodLink RX2 115 yX0_drop, Cond.instanceMethod yX0_drop, Cond.selects RX0 yX0_drop yX0_drop, Cond.code yX0_drop cX0_drop 1 none, Cond.methodLink RX4 61 yX2_cancel, Cond.instanceMethod yX2_cancel]
def wsX4_rehearse_r11 : List Cond := [Cond.selects RX2 yX2_cancel yX2_cancel, Cond.code yX2_cancel cX2_cancel 2 (some .int), Cond.fieldLink RX2 118 "BlockClerks$Numbers" "state" "[I", Cond.fieldLink RX2 121 "BlockClerks$Numbers" "owner" "[I", Cond.methodLink RX4 64 yX2_endDay, Cond.instanceMethod yX2_endDay, Cond.selects RX2 yX2_endDay yX2_endDay, Cond.code yX2_endDay cX2_endDay 3 (some .int), Cond.methodLink RX2 124 yX1_closeAll, Cond.instanceMethod yX1_closeAll, Cond.selects RX1 yX1_closeAll yX1_closeAll, Cond.code yX1_closeAll cX1_closeAll 3 (some .int), Cond.methodLink RX4 140 yX4_reasonOf, Cond.static yX4_reasonOf, Cond.code yX4_reasonOf cX4_reasonOf 1 (some .int)]
def wsX4_rehearse : List Cond := .code yX4_rehearse cX4_rehearse 4 (some .int) :: ((wsX4_rehearse_r1 ++ (wsX4_rehearse_r2 ++ (wsX4_rehearse_r3 ++ (wsX4_rehearse_r4 ++ (wsX4_rehearse_r5 ++ (wsX4_rehearse_r6 ++ (wsX4_rehearse_r7 ++ (wsX4_rehearse_r8 ++ (wsX4_rehearse_r9 ++ (wsX4_rehearse_r10 ++ wsX4_rehearse_r11)))))))))) ++ wsX40 ++ wsX30 ++ wsX20 ++ wsX10 ++ wsX00)
def wsX4_fault_r1 : List Cond := [Cond.fieldLink RX4 37 "BlockClerks" "faultReason" "I", Cond.fieldLink RX4 34 "BlockClerks" "faultPosition" "I", Cond.methodLink RX4 118 yX4_rehearse, Cond.instanceMethod yX4_rehearse, Cond.selects RX4 yX4_rehearse yX4_rehearse, Cond.initialized RX4, Cond.code yX4_rehearse cX4_rehearse 4 (some .int), Cond.fieldLink RX4 16 "BlockClerks" "trial" "LBlockClerks$Office;", Cond.fieldLink RX4 10 "BlockClerks" "office" "LBlockClerks$Office;", Cond.fieldLink RX4 30 "BlockClerks" "script" "LBlockClerks$Script;", Cond.fieldLink RX4 130 "BlockClerks$Script" "at" "I", Cond.fieldLink RX4 96 "BlockClerks$Script" "length" "I", Cond.methodLink RX4 40 yX2_become, Cond.instanceMethod yX2_become, Cond.selects RX2 yX2_become yX2_become, Cond.initialized RX2, Cond.code yX2_become cX2_become 3 none, Cond.fieldLink RX2 12 "BlockClerks$Office" "numbers" "LBlockClerks$Numbers;", Cond.fieldLink RX2 20 "BlockClerks$Office" "clerks" "[LBlockClerks$Clerk;", Cond.fieldLink RX2 24 "BlockClerks$Office" "clerkCount" "I", Cond.fieldLink RX2 28 "BlockClerks$Office" "settings" "[I", Cond.methodLink RX2 43 arraycopyName, Cond.native arraycopyName, Cond.static arraycopyName]
def wsX4_fault_r2 : List Cond := [Cond.initialized "java/lang/System", Cond.fieldLink RX2 32 "BlockClerks$Office" "today" "I", Cond.methodLink RX2 36 yX1_become, Cond.instanceMethod yX1_become, Cond.selects RX1 yX1_become yX1_become, Cond.initialized RX1, Cond.code yX1_become cX1_become 2 none, Cond.fieldLink RX1 9 "BlockClerks$Numbers" "state" "[I", Cond.methodLink RX1 37 arraycopyName, Cond.fieldLink RX1 15 "BlockClerks$Numbers" "owner" "[I", Cond.fieldLink RX1 18 "BlockClerks$Numbers" "reason" "[I", Cond.fieldLink RX1 21 "BlockClerks$Numbers" "turn" "[I", Cond.fieldLink RX1 24 "BlockClerks$Numbers" "day" "[I", Cond.fieldLink RX1 27 "BlockClerks$Numbers" "inTurn" "[I", Cond.fieldLink RX1 30 "BlockClerks$Numbers" "turns" "I", Cond.fieldLink RX1 34 "BlockClerks$Numbers" "firstNew" "I", Cond.methodLink RX2 40 yX0_become, Cond.instanceMethod yX0_become, Cond.selects RX0 yX0_become yX0_become, Cond.initialized RX0, Cond.code yX0_become cX0_become 2 none, Cond.fieldLink RX0 9 "BlockClerks$Clerk" "kind" "I", Cond.fieldLink RX0 15 "BlockClerks$Clerk" "low" "I", Cond.fieldLink RX0 18 "BlockClerks$Clerk" "high" "I"]
def wsX4_fault_r3 : List Cond := [Cond.fieldLink RX0 21 "BlockClerks$Clerk" "mark" "I", Cond.fieldLink RX0 24 "BlockClerks$Clerk" "given" "I", Cond.fieldLink RX0 27 "BlockClerks$Clerk" "blocks" "I", Cond.fieldLink RX0 30 "BlockClerks$Clerk" "latest" "I", Cond.methodLink RX4 127 yX3_rewind, Cond.instanceMethod yX3_rewind, Cond.selects RX3 yX3_rewind yX3_rewind, Cond.initialized RX3, Cond.code yX3_rewind cX3_rewind 1 none, Cond.fieldLink RX3 19 "BlockClerks$Script" "at" "I", Cond.methodLink RX4 133 yX3_readCommand, Cond.instanceMethod yX3_readCommand, Cond.selects RX3 yX3_readCommand yX3_readCommand, Cond.code yX3_readCommand cX3_readCommand 1 (some .boolean), Cond.fieldLink RX3 25 "BlockClerks$Script" "first" "I", Cond.fieldLink RX3 28 "BlockClerks$Script" "second" "I", Cond.fieldLink RX3 22 "BlockClerks$Script" "verb" "I", Cond.methodLink RX3 33 yX3_takeWord, Cond.instanceMethod yX3_takeWord, Cond.selects RX3 yX3_takeWord yX3_takeWord, Cond.code yX3_takeWord cX3_takeWord 3 (some .boolean), Cond.methodLink RX3 58 yJ0_length_8abf5, Cond.instanceMethod yJ0_length_8abf5, Cond.selects RJ0 yJ0_length_8abf5 yJ0_length_8abf5]
def wsX4_fault_r4 : List Cond := [Cond.initialized RJ0, Cond.code yJ0_length_8abf5 cJ0_length_8abf5 1 (some .int), Cond.fieldLink RJ0 9 "java/lang/String" "value" "[B", Cond.methodLink RJ0 335 yJ0_coder_7d493, Cond.instanceMethod yJ0_coder_7d493, Cond.selects RJ0 yJ0_coder_7d493 yJ0_coder_7d493, Cond.code yJ0_coder_7d493 cJ0_coder_7d493 1 (some .byte), Cond.fieldLink RJ0 38 "java/lang/String" "COMPACT_STRINGS" "Z", Cond.fieldLink RJ0 15 "java/lang/String" "coder" "B", Cond.methodLink RX3 62 yX3_signAt, Cond.instanceMethod yX3_signAt, Cond.selects RX3 yX3_signAt yX3_signAt, Cond.code yX3_signAt cX3_signAt 2 (some .int), Cond.fieldLink RX3 15 "BlockClerks$Script" "length" "I", Cond.fieldLink RX3 9 "BlockClerks$Script" "signs" "[C", Cond.methodLink RX3 66 yJ0_charAt_5068e, Cond.instanceMethod yJ0_charAt_5068e, Cond.selects RJ0 yJ0_charAt_5068e yJ0_charAt_5068e, Cond.code yJ0_charAt_5068e cJ0_charAt_5068e 2 (some .char), Cond.methodLink RJ0 492 yJ0_isLatin1_aae02, Cond.instanceMethod yJ0_isLatin1_aae02, Cond.selects RJ0 yJ0_isLatin1_aae02 yJ0_isLatin1_aae02, Cond.code yJ0_isLatin1_aae02 cJ0_isLatin1_aae02 1 (some .boolean), Cond.methodLink RJ0 495 yJ1_charAt_3b067]
def wsX4_fault_r5 : List Cond := [Cond.static yJ1_charAt_3b067, Cond.initialized RJ1, Cond.code yJ1_charAt_3b067 cJ1_charAt_3b067 2 (some .char), Cond.methodLink RJ1 9 yJ0_checkIndex_df160, Cond.static yJ0_checkIndex_df160, Cond.code yJ0_checkIndex_df160 cJ0_checkIndex_df160 2 none, Cond.fieldLink RJ0 1053 "jdk/internal/util/Preconditions" "SIOOBE_FORMATTER" "Ljava/util/function/BiFunction;", Cond.methodLink RJ0 1059 yJ3_checkIndex_8e157, Cond.static yJ3_checkIndex_8e157, Cond.initialized RJ3, Cond.code yJ3_checkIndex_8e157 cJ3_checkIndex_8e157 3 (some .int), Cond.methodLink RJ0 498 yJ2_charAt_3b067, Cond.static yJ2_charAt_3b067, Cond.initialized RJ2, Cond.code yJ2_charAt_3b067 cJ2_charAt_3b067 2 (some .char), Cond.methodLink RJ2 67 yJ2_checkIndex_2214a, Cond.static yJ2_checkIndex_2214a, Cond.code yJ2_checkIndex_2214a cJ2_checkIndex_2214a 2 none, Cond.methodLink RJ2 48 yJ2_length_9d52b, Cond.static yJ2_length_9d52b, Cond.code yJ2_length_9d52b cJ2_length_9d52b 1 (some .int), Cond.methodLink RJ2 414 yJ0_checkIndex_df160, Cond.methodLink RJ2 71 yJ2_getChar_3b067, Cond.static yJ2_getChar_3b067]
def wsX4_fault_r6 : List Cond := [Cond.code yJ2_getChar_3b067 cJ2_getChar_3b067 2 (some .char), Cond.fieldLink RJ2 44 "java/lang/StringUTF16" "$assertionsDisabled" "Z", Cond.fieldLink RJ2 59 "java/lang/StringUTF16" "HI_BYTE_SHIFT" "I", Cond.fieldLink RJ2 63 "java/lang/StringUTF16" "LO_BYTE_SHIFT" "I", Cond.methodLink RX3 37 yX3_takeKind, Cond.instanceMethod yX3_takeKind, Cond.selects RX3 yX3_takeKind yX3_takeKind, Cond.code yX3_takeKind cX3_takeKind 1 (some .int), Cond.methodLink RX3 43 yX3_takeNumber, Cond.instanceMethod yX3_takeNumber, Cond.selects RX3 yX3_takeNumber yX3_takeNumber, Cond.code yX3_takeNumber cX3_takeNumber 3 (some .int), Cond.methodLink RX3 80 Lib.Math.max.name, Cond.static Lib.Math.max.name, Cond.initialized "java/lang/Math", Cond.code Lib.Math.max.name Lib.Math.max.code 2 (some .int), Cond.methodLink RX3 76 yX3_isDigit, Cond.static yX3_isDigit, Cond.code yX3_isDigit cX3_isDigit 1 (some .boolean), Cond.methodLink RX4 137 yX4_perform, Cond.instanceMethod yX4_perform, Cond.selects RX4 yX4_perform yX4_perform, Cond.code yX4_perform cX4_perform 1 (some .int), Cond.fieldLink RX4 143 "BlockClerks$Script" "verb" "I"]
def wsX4_fault_r7 : List Cond := [Cond.fieldLink RX4 146 "BlockClerks$Script" "first" "I", Cond.fieldLink RX4 149 "BlockClerks$Script" "second" "I", Cond.methodLink RX4 44 yX2_addClerk, Cond.instanceMethod yX2_addClerk, Cond.selects RX2 yX2_addClerk yX2_addClerk, Cond.code yX2_addClerk cX2_addClerk 2 (some .int), Cond.fieldLink RX2 49 "BlockClerks$Clerk" "kind" "I", Cond.methodLink RX4 51 yX2_serve, Cond.instanceMethod yX2_serve, Cond.selects RX2 yX2_serve yX2_serve, Cond.code yX2_serve cX2_serve 5 (some .int), Cond.methodLink RX2 52 yX2_isClerk, Cond.instanceMethod yX2_isClerk, Cond.selects RX2 yX2_isClerk yX2_isClerk, Cond.code yX2_isClerk cX2_isClerk 2 (some .boolean), Cond.methodLink RX2 56 yX2_available, Cond.instanceMethod yX2_available, Cond.selects RX2 yX2_available yX2_available, Cond.code yX2_available cX2_available 3 (some .int), Cond.methodLink RX2 75 yX1_inState, Cond.instanceMethod yX1_inState, Cond.selects RX1 yX1_inState yX1_inState, Cond.code yX1_inState cX1_inState 6 (some .int), Cond.methodLink RX1 49 Lib.Math.max.name]
def wsX4_fault_r8 : List Cond := [Cond.methodLink RX2 60 yX0_held, Cond.instanceMethod yX0_held, Cond.selects RX0 yX0_held yX0_held, Cond.code yX0_held cX0_held 1 (some .int), Cond.methodLink RX2 64 yX2_handOut, Cond.instanceMethod yX2_handOut, Cond.selects RX2 yX2_handOut yX2_handOut, Cond.code yX2_handOut cX2_handOut 4 none, Cond.methodLink RX2 85 yX2_startOfBlock, Cond.instanceMethod yX2_startOfBlock, Cond.selects RX2 yX2_startOfBlock yX2_startOfBlock, Cond.code yX2_startOfBlock cX2_startOfBlock 2 (some .int), Cond.fieldLink RX2 82 "BlockClerks$Numbers" "firstNew" "I", Cond.methodLink RX2 79 yX1_lowestFree, Cond.instanceMethod yX1_lowestFree, Cond.selects RX1 yX1_lowestFree yX1_lowestFree, Cond.code yX1_lowestFree cX1_lowestFree 2 (some .int), Cond.methodLink RX2 88 yX1_isNumber, Cond.static yX1_isNumber, Cond.code yX1_isNumber cX1_isNumber 1 (some .boolean), Cond.methodLink RX2 91 yX1_lastOfRow, Cond.instanceMethod yX1_lastOfRow, Cond.selects RX1 yX1_lastOfRow yX1_lastOfRow, Cond.code yX1_lastOfRow cX1_lastOfRow 4 (some .int)]
def wsX4_fault_r9 : List Cond := [Cond.methodLink RX1 60 yX1_goesOn, Cond.instanceMethod yX1_goesOn, Cond.selects RX1 yX1_goesOn yX1_goesOn, Cond.code yX1_goesOn cX1_goesOn 2 (some .boolean), Cond.methodLink RX2 95 yX1_put, Cond.instanceMethod yX1_put, Cond.selects RX1 yX1_put yX1_put, Cond.code yX1_put cX1_put 8 none, Cond.methodLink RX1 43 Lib.Math.min.name, Cond.static Lib.Math.min.name, Cond.code Lib.Math.min.name Lib.Math.min.code 2 (some .int), Cond.methodLink RX2 99 yX0_receive, Cond.instanceMethod yX0_receive, Cond.selects RX0 yX0_receive yX0_receive, Cond.code yX0_receive cX0_receive 3 none, Cond.methodLink RX2 68 yX0_giveLowest, Cond.instanceMethod yX0_giveLowest, Cond.selects RX0 yX0_giveLowest yX0_giveLowest, Cond.code yX0_giveLowest cX0_giveLowest 3 (some .int), Cond.methodLink RX0 33 Lib.Math.min.name, Cond.methodLink RX2 71 yX1_give, Cond.instanceMethod yX1_give, Cond.selects RX1 yX1_give yX1_give, Cond.code yX1_give cX1_give 4 none]
def wsX4_fault_r10 : List Cond := [Cond.methodLink RX1 52 yX1_isNumber, Cond.methodLink RX1 56 yX1_put, Cond.methodLink RX4 55 yX2_letForget, Cond.instanceMethod yX2_letForget, Cond.selects RX2 yX2_letForget yX2_letForget, Cond.code yX2_letForget cX2_letForget 4 (some .int), Cond.fieldLink RX2 106 "BlockClerks$Clerk" "low" "I", Cond.methodLink RX2 103 yX0_loss, Cond.instanceMethod yX0_loss, Cond.selects RX0 yX0_loss yX0_loss, Cond.code yX0_loss cX0_loss 1 (some .int), Cond.methodLink RX0 43 Lib.Math.max.name, Cond.methodLink RX0 39 yX0_lastLost, Cond.instanceMethod yX0_lastLost, Cond.selects RX0 yX0_lastLost yX0_lastLost, Cond.code yX0_lastLost cX0_lastLost 1 (some .int), Cond.methodLink RX2 109 yX0_lastLost, Cond.methodLink RX4 58 yX2_takeBack, Cond.instanceMethod yX2_takeBack, Cond.selects RX2 yX2_takeBack yX2_takeBack, Cond.code yX2_takeBack cX2_takeBack 4 (some .int), Cond.fieldLink RX2 112 "BlockClerks$Clerk" "high" "I", Cond.methodLink RX2 115 yX0_drop, Cond.instanceMethod yX0_drop]
def wsX4_fault_r11 : List Cond := [Cond.selects RX0 yX0_drop yX0_drop, Cond.code yX0_drop cX0_drop 1 none, Cond.methodLink RX4 61 yX2_cancel, Cond.instanceMethod yX2_cancel, Cond.selects RX2 yX2_cancel yX2_cancel, Cond.code yX2_cancel cX2_cancel 2 (some .int), Cond.fieldLink RX2 118 "BlockClerks$Numbers" "state" "[I", Cond.fieldLink RX2 121 "BlockClerks$Numbers" "owner" "[I", Cond.methodLink RX4 64 yX2_endDay, Cond.instanceMethod yX2_endDay, Cond.selects RX2 yX2_endDay yX2_endDay, Cond.code yX2_endDay cX2_endDay 3 (some .int), Cond.methodLink RX2 124 yX1_closeAll, Cond.instanceMethod yX1_closeAll, Cond.selects RX1 yX1_closeAll yX1_closeAll, Cond.code yX1_closeAll cX1_closeAll 3 (some .int), Cond.methodLink RX4 140 yX4_reasonOf, Cond.static yX4_reasonOf, Cond.code yX4_reasonOf cX4_reasonOf 1 (some .int)]
def wsX4_fault : List Cond := .code yX4_fault cX4_fault 2 (some .int) :: ((wsX4_fault_r1 ++ (wsX4_fault_r2 ++ (wsX4_fault_r3 ++ (wsX4_fault_r4 ++ (wsX4_fault_r5 ++ (wsX4_fault_r6 ++ (wsX4_fault_r7 ++ (wsX4_fault_r8 ++ (wsX4_fault_r9 ++ (wsX4_fault_r10 ++ wsX4_fault_r11)))))))))) ++ wsX40 ++ wsX30 ++ wsX20 ++ wsX10 ++ wsX00)
def wsX4_play_r1 : List Cond := [Cond.fieldLink RX4 37 "BlockClerks" "faultReason" "I", Cond.methodLink RX4 118 yX4_rehearse, Cond.instanceMethod yX4_rehearse, Cond.selects RX4 yX4_rehearse yX4_rehearse, Cond.initialized RX4, Cond.code yX4_rehearse cX4_rehearse 4 (some .int), Cond.fieldLink RX4 16 "BlockClerks" "trial" "LBlockClerks$Office;", Cond.fieldLink RX4 10 "BlockClerks" "office" "LBlockClerks$Office;", Cond.fieldLink RX4 30 "BlockClerks" "script" "LBlockClerks$Script;", Cond.fieldLink RX4 34 "BlockClerks" "faultPosition" "I", Cond.fieldLink RX4 130 "BlockClerks$Script" "at" "I", Cond.fieldLink RX4 96 "BlockClerks$Script" "length" "I", Cond.methodLink RX4 40 yX2_become, Cond.instanceMethod yX2_become, Cond.selects RX2 yX2_become yX2_become, Cond.initialized RX2, Cond.code yX2_become cX2_become 3 none, Cond.fieldLink RX2 12 "BlockClerks$Office" "numbers" "LBlockClerks$Numbers;", Cond.fieldLink RX2 20 "BlockClerks$Office" "clerks" "[LBlockClerks$Clerk;", Cond.fieldLink RX2 24 "BlockClerks$Office" "clerkCount" "I", Cond.fieldLink RX2 28 "BlockClerks$Office" "settings" "[I", Cond.methodLink RX2 43 arraycopyName, Cond.native arraycopyName, Cond.static arraycopyName]
def wsX4_play_r2 : List Cond := [Cond.initialized "java/lang/System", Cond.fieldLink RX2 32 "BlockClerks$Office" "today" "I", Cond.methodLink RX2 36 yX1_become, Cond.instanceMethod yX1_become, Cond.selects RX1 yX1_become yX1_become, Cond.initialized RX1, Cond.code yX1_become cX1_become 2 none, Cond.fieldLink RX1 9 "BlockClerks$Numbers" "state" "[I", Cond.methodLink RX1 37 arraycopyName, Cond.fieldLink RX1 15 "BlockClerks$Numbers" "owner" "[I", Cond.fieldLink RX1 18 "BlockClerks$Numbers" "reason" "[I", Cond.fieldLink RX1 21 "BlockClerks$Numbers" "turn" "[I", Cond.fieldLink RX1 24 "BlockClerks$Numbers" "day" "[I", Cond.fieldLink RX1 27 "BlockClerks$Numbers" "inTurn" "[I", Cond.fieldLink RX1 30 "BlockClerks$Numbers" "turns" "I", Cond.fieldLink RX1 34 "BlockClerks$Numbers" "firstNew" "I", Cond.methodLink RX2 40 yX0_become, Cond.instanceMethod yX0_become, Cond.selects RX0 yX0_become yX0_become, Cond.initialized RX0, Cond.code yX0_become cX0_become 2 none, Cond.fieldLink RX0 9 "BlockClerks$Clerk" "kind" "I", Cond.fieldLink RX0 15 "BlockClerks$Clerk" "low" "I", Cond.fieldLink RX0 18 "BlockClerks$Clerk" "high" "I"]
def wsX4_play_r3 : List Cond := [Cond.fieldLink RX0 21 "BlockClerks$Clerk" "mark" "I", Cond.fieldLink RX0 24 "BlockClerks$Clerk" "given" "I", Cond.fieldLink RX0 27 "BlockClerks$Clerk" "blocks" "I", Cond.fieldLink RX0 30 "BlockClerks$Clerk" "latest" "I", Cond.methodLink RX4 127 yX3_rewind, Cond.instanceMethod yX3_rewind, Cond.selects RX3 yX3_rewind yX3_rewind, Cond.initialized RX3, Cond.code yX3_rewind cX3_rewind 1 none, Cond.fieldLink RX3 19 "BlockClerks$Script" "at" "I", Cond.methodLink RX4 133 yX3_readCommand, Cond.instanceMethod yX3_readCommand, Cond.selects RX3 yX3_readCommand yX3_readCommand, Cond.code yX3_readCommand cX3_readCommand 1 (some .boolean), Cond.fieldLink RX3 25 "BlockClerks$Script" "first" "I", Cond.fieldLink RX3 28 "BlockClerks$Script" "second" "I", Cond.fieldLink RX3 22 "BlockClerks$Script" "verb" "I", Cond.methodLink RX3 33 yX3_takeWord, Cond.instanceMethod yX3_takeWord, Cond.selects RX3 yX3_takeWord yX3_takeWord, Cond.code yX3_takeWord cX3_takeWord 3 (some .boolean), Cond.methodLink RX3 58 yJ0_length_8abf5, Cond.instanceMethod yJ0_length_8abf5, Cond.selects RJ0 yJ0_length_8abf5 yJ0_length_8abf5]
def wsX4_play_r4 : List Cond := [Cond.initialized RJ0, Cond.code yJ0_length_8abf5 cJ0_length_8abf5 1 (some .int), Cond.fieldLink RJ0 9 "java/lang/String" "value" "[B", Cond.methodLink RJ0 335 yJ0_coder_7d493, Cond.instanceMethod yJ0_coder_7d493, Cond.selects RJ0 yJ0_coder_7d493 yJ0_coder_7d493, Cond.code yJ0_coder_7d493 cJ0_coder_7d493 1 (some .byte), Cond.fieldLink RJ0 38 "java/lang/String" "COMPACT_STRINGS" "Z", Cond.fieldLink RJ0 15 "java/lang/String" "coder" "B", Cond.methodLink RX3 62 yX3_signAt, Cond.instanceMethod yX3_signAt, Cond.selects RX3 yX3_signAt yX3_signAt, Cond.code yX3_signAt cX3_signAt 2 (some .int), Cond.fieldLink RX3 15 "BlockClerks$Script" "length" "I", Cond.fieldLink RX3 9 "BlockClerks$Script" "signs" "[C", Cond.methodLink RX3 66 yJ0_charAt_5068e, Cond.instanceMethod yJ0_charAt_5068e, Cond.selects RJ0 yJ0_charAt_5068e yJ0_charAt_5068e, Cond.code yJ0_charAt_5068e cJ0_charAt_5068e 2 (some .char), Cond.methodLink RJ0 492 yJ0_isLatin1_aae02, Cond.instanceMethod yJ0_isLatin1_aae02, Cond.selects RJ0 yJ0_isLatin1_aae02 yJ0_isLatin1_aae02, Cond.code yJ0_isLatin1_aae02 cJ0_isLatin1_aae02 1 (some .boolean), Cond.methodLink RJ0 495 yJ1_charAt_3b067]
def wsX4_play_r5 : List Cond := [Cond.static yJ1_charAt_3b067, Cond.initialized RJ1, Cond.code yJ1_charAt_3b067 cJ1_charAt_3b067 2 (some .char), Cond.methodLink RJ1 9 yJ0_checkIndex_df160, Cond.static yJ0_checkIndex_df160, Cond.code yJ0_checkIndex_df160 cJ0_checkIndex_df160 2 none, Cond.fieldLink RJ0 1053 "jdk/internal/util/Preconditions" "SIOOBE_FORMATTER" "Ljava/util/function/BiFunction;", Cond.methodLink RJ0 1059 yJ3_checkIndex_8e157, Cond.static yJ3_checkIndex_8e157, Cond.initialized RJ3, Cond.code yJ3_checkIndex_8e157 cJ3_checkIndex_8e157 3 (some .int), Cond.methodLink RJ0 498 yJ2_charAt_3b067, Cond.static yJ2_charAt_3b067, Cond.initialized RJ2, Cond.code yJ2_charAt_3b067 cJ2_charAt_3b067 2 (some .char), Cond.methodLink RJ2 67 yJ2_checkIndex_2214a, Cond.static yJ2_checkIndex_2214a, Cond.code yJ2_checkIndex_2214a cJ2_checkIndex_2214a 2 none, Cond.methodLink RJ2 48 yJ2_length_9d52b, Cond.static yJ2_length_9d52b, Cond.code yJ2_length_9d52b cJ2_length_9d52b 1 (some .int), Cond.methodLink RJ2 414 yJ0_checkIndex_df160, Cond.methodLink RJ2 71 yJ2_getChar_3b067, Cond.static yJ2_getChar_3b067]
def wsX4_play_r6 : List Cond := [Cond.code yJ2_getChar_3b067 cJ2_getChar_3b067 2 (some .char), Cond.fieldLink RJ2 44 "java/lang/StringUTF16" "$assertionsDisabled" "Z", Cond.fieldLink RJ2 59 "java/lang/StringUTF16" "HI_BYTE_SHIFT" "I", Cond.fieldLink RJ2 63 "java/lang/StringUTF16" "LO_BYTE_SHIFT" "I", Cond.methodLink RX3 37 yX3_takeKind, Cond.instanceMethod yX3_takeKind, Cond.selects RX3 yX3_takeKind yX3_takeKind, Cond.code yX3_takeKind cX3_takeKind 1 (some .int), Cond.methodLink RX3 43 yX3_takeNumber, Cond.instanceMethod yX3_takeNumber, Cond.selects RX3 yX3_takeNumber yX3_takeNumber, Cond.code yX3_takeNumber cX3_takeNumber 3 (some .int), Cond.methodLink RX3 80 Lib.Math.max.name, Cond.static Lib.Math.max.name, Cond.initialized "java/lang/Math", Cond.code Lib.Math.max.name Lib.Math.max.code 2 (some .int), Cond.methodLink RX3 76 yX3_isDigit, Cond.static yX3_isDigit, Cond.code yX3_isDigit cX3_isDigit 1 (some .boolean), Cond.methodLink RX4 137 yX4_perform, Cond.instanceMethod yX4_perform, Cond.selects RX4 yX4_perform yX4_perform, Cond.code yX4_perform cX4_perform 1 (some .int), Cond.fieldLink RX4 143 "BlockClerks$Script" "verb" "I"]
def wsX4_play_r7 : List Cond := [Cond.fieldLink RX4 146 "BlockClerks$Script" "first" "I", Cond.fieldLink RX4 149 "BlockClerks$Script" "second" "I", Cond.methodLink RX4 44 yX2_addClerk, Cond.instanceMethod yX2_addClerk, Cond.selects RX2 yX2_addClerk yX2_addClerk, Cond.code yX2_addClerk cX2_addClerk 2 (some .int), Cond.fieldLink RX2 49 "BlockClerks$Clerk" "kind" "I", Cond.methodLink RX4 51 yX2_serve, Cond.instanceMethod yX2_serve, Cond.selects RX2 yX2_serve yX2_serve, Cond.code yX2_serve cX2_serve 5 (some .int), Cond.methodLink RX2 52 yX2_isClerk, Cond.instanceMethod yX2_isClerk, Cond.selects RX2 yX2_isClerk yX2_isClerk, Cond.code yX2_isClerk cX2_isClerk 2 (some .boolean), Cond.methodLink RX2 56 yX2_available, Cond.instanceMethod yX2_available, Cond.selects RX2 yX2_available yX2_available, Cond.code yX2_available cX2_available 3 (some .int), Cond.methodLink RX2 75 yX1_inState, Cond.instanceMethod yX1_inState, Cond.selects RX1 yX1_inState yX1_inState, Cond.code yX1_inState cX1_inState 6 (some .int), Cond.methodLink RX1 49 Lib.Math.max.name]
def wsX4_play_r8 : List Cond := [Cond.methodLink RX2 60 yX0_held, Cond.instanceMethod yX0_held, Cond.selects RX0 yX0_held yX0_held, Cond.code yX0_held cX0_held 1 (some .int), Cond.methodLink RX2 64 yX2_handOut, Cond.instanceMethod yX2_handOut, Cond.selects RX2 yX2_handOut yX2_handOut, Cond.code yX2_handOut cX2_handOut 4 none, Cond.methodLink RX2 85 yX2_startOfBlock, Cond.instanceMethod yX2_startOfBlock, Cond.selects RX2 yX2_startOfBlock yX2_startOfBlock, Cond.code yX2_startOfBlock cX2_startOfBlock 2 (some .int), Cond.fieldLink RX2 82 "BlockClerks$Numbers" "firstNew" "I", Cond.methodLink RX2 79 yX1_lowestFree, Cond.instanceMethod yX1_lowestFree, Cond.selects RX1 yX1_lowestFree yX1_lowestFree, Cond.code yX1_lowestFree cX1_lowestFree 2 (some .int), Cond.methodLink RX2 88 yX1_isNumber, Cond.static yX1_isNumber, Cond.code yX1_isNumber cX1_isNumber 1 (some .boolean), Cond.methodLink RX2 91 yX1_lastOfRow, Cond.instanceMethod yX1_lastOfRow, Cond.selects RX1 yX1_lastOfRow yX1_lastOfRow, Cond.code yX1_lastOfRow cX1_lastOfRow 4 (some .int)]
def wsX4_play_r9 : List Cond := [Cond.methodLink RX1 60 yX1_goesOn, Cond.instanceMethod yX1_goesOn, Cond.selects RX1 yX1_goesOn yX1_goesOn, Cond.code yX1_goesOn cX1_goesOn 2 (some .boolean), Cond.methodLink RX2 95 yX1_put, Cond.instanceMethod yX1_put, Cond.selects RX1 yX1_put yX1_put, Cond.code yX1_put cX1_put 8 none, Cond.methodLink RX1 43 Lib.Math.min.name, Cond.static Lib.Math.min.name, Cond.code Lib.Math.min.name Lib.Math.min.code 2 (some .int), Cond.methodLink RX2 99 yX0_receive, Cond.instanceMethod yX0_receive, Cond.selects RX0 yX0_receive yX0_receive, Cond.code yX0_receive cX0_receive 3 none, Cond.methodLink RX2 68 yX0_giveLowest, Cond.instanceMethod yX0_giveLowest, Cond.selects RX0 yX0_giveLowest yX0_giveLowest, Cond.code yX0_giveLowest cX0_giveLowest 3 (some .int), Cond.methodLink RX0 33 Lib.Math.min.name, Cond.methodLink RX2 71 yX1_give, Cond.instanceMethod yX1_give, Cond.selects RX1 yX1_give yX1_give, Cond.code yX1_give cX1_give 4 none]
def wsX4_play_r10 : List Cond := [Cond.methodLink RX1 52 yX1_isNumber, Cond.methodLink RX1 56 yX1_put, Cond.methodLink RX4 55 yX2_letForget, Cond.instanceMethod yX2_letForget, Cond.selects RX2 yX2_letForget yX2_letForget, Cond.code yX2_letForget cX2_letForget 4 (some .int), Cond.fieldLink RX2 106 "BlockClerks$Clerk" "low" "I", Cond.methodLink RX2 103 yX0_loss, Cond.instanceMethod yX0_loss, Cond.selects RX0 yX0_loss yX0_loss, Cond.code yX0_loss cX0_loss 1 (some .int), Cond.methodLink RX0 43 Lib.Math.max.name, Cond.methodLink RX0 39 yX0_lastLost, Cond.instanceMethod yX0_lastLost, Cond.selects RX0 yX0_lastLost yX0_lastLost, Cond.code yX0_lastLost cX0_lastLost 1 (some .int), Cond.methodLink RX2 109 yX0_lastLost, Cond.methodLink RX4 58 yX2_takeBack, Cond.instanceMethod yX2_takeBack, Cond.selects RX2 yX2_takeBack yX2_takeBack, Cond.code yX2_takeBack cX2_takeBack 4 (some .int), Cond.fieldLink RX2 112 "BlockClerks$Clerk" "high" "I", Cond.methodLink RX2 115 yX0_drop, Cond.instanceMethod yX0_drop]
def wsX4_play_r11 : List Cond := [Cond.selects RX0 yX0_drop yX0_drop, Cond.code yX0_drop cX0_drop 1 none, Cond.methodLink RX4 61 yX2_cancel, Cond.instanceMethod yX2_cancel, Cond.selects RX2 yX2_cancel yX2_cancel, Cond.code yX2_cancel cX2_cancel 2 (some .int), Cond.fieldLink RX2 118 "BlockClerks$Numbers" "state" "[I", Cond.fieldLink RX2 121 "BlockClerks$Numbers" "owner" "[I", Cond.methodLink RX4 64 yX2_endDay, Cond.instanceMethod yX2_endDay, Cond.selects RX2 yX2_endDay yX2_endDay, Cond.code yX2_endDay cX2_endDay 3 (some .int), Cond.methodLink RX2 124 yX1_closeAll, Cond.instanceMethod yX1_closeAll, Cond.selects RX1 yX1_closeAll yX1_closeAll, Cond.code yX1_closeAll cX1_closeAll 3 (some .int), Cond.methodLink RX4 140 yX4_reasonOf, Cond.static yX4_reasonOf, Cond.code yX4_reasonOf cX4_reasonOf 1 (some .int), Cond.methodLink RX4 48 yX4_adopt, Cond.instanceMethod yX4_adopt, Cond.selects RX4 yX4_adopt yX4_adopt, Cond.code yX4_adopt cX4_adopt 2 (some .int), Cond.methodLink RX4 121 yX4_remember]
def wsX4_play_r12 : List Cond := [Cond.instanceMethod yX4_remember, Cond.selects RX4 yX4_remember yX4_remember, Cond.code yX4_remember cX4_remember 1 none, Cond.fieldLink RX4 23 "BlockClerks" "kept" "I", Cond.fieldLink RX4 19 "BlockClerks" "history" "[LBlockClerks$Office;", Cond.methodLink RX4 124 yX4_dropOldest, Cond.instanceMethod yX4_dropOldest, Cond.selects RX4 yX4_dropOldest yX4_dropOldest, Cond.code yX4_dropOldest cX4_dropOldest 3 none]
def wsX4_play : List Cond := .code yX4_play cX4_play 2 (some .int) :: ((wsX4_play_r1 ++ (wsX4_play_r2 ++ (wsX4_play_r3 ++ (wsX4_play_r4 ++ (wsX4_play_r5 ++ (wsX4_play_r6 ++ (wsX4_play_r7 ++ (wsX4_play_r8 ++ (wsX4_play_r9 ++ (wsX4_play_r10 ++ (wsX4_play_r11 ++ wsX4_play_r12))))))))))) ++ wsX40 ++ wsX30 ++ wsX20 ++ wsX10 ++ wsX00)
def wsX5_n : List Cond := .code yX5_n cX5_n 1 (some .int) :: ([])
def wsX5_init : List Cond := .code yX5_init cX5_init 2 none :: ([.methodLink RX5 1 objectInit, .instanceMethod objectInit, .code objectInit ⟨#[0xb1]⟩ 1 none, .arrayClass .int, .fieldLink RX5 7 "BlockClerksModel" "s" "[I", .fieldLink RX5 13 "BlockClerksModel" "before" "[I", .fieldLink RX5 16 "BlockClerksModel" "aside" "[I", .fieldLink RX5 19 "BlockClerksModel" "text" "[I", .methodLink RX5 22 yX5_n, .static yX5_n, .initialized RX5, .code yX5_n cX5_n 1 (some .int)] ++ wsX50)
def wsX5_in : List Cond := .code yX5_in cX5_in 3 (some .boolean) :: ([])
def wsX5_record : List Cond := .code yX5_record cX5_record 2 none :: ([.fieldLink RX5 26 "BlockClerksModel" "undoMany" "I", .fieldLink RX5 13 "BlockClerksModel" "before" "[I", .fieldLink RX5 7 "BlockClerksModel" "s" "[I"] ++ wsX50)
def wsX5_layAside : List Cond := .code yX5_layAside cX5_layAside 2 none :: ([.fieldLink RX5 16 "BlockClerksModel" "aside" "[I", .fieldLink RX5 7 "BlockClerksModel" "s" "[I"] ++ wsX50)
def wsX5_layBack : List Cond := .code yX5_layBack cX5_layBack 2 none :: ([.fieldLink RX5 7 "BlockClerksModel" "s" "[I", .fieldLink RX5 16 "BlockClerksModel" "aside" "[I"] ++ wsX50)
def wsX5_c : List Cond := .code yX5_c cX5_c 1 (some .int) :: ([])
def wsX5_isClerk : List Cond := .code yX5_isClerk cX5_isClerk 2 (some .boolean) :: ([.fieldLink RX5 7 "BlockClerksModel" "s" "[I", .methodLink RX5 30 yX5_in, .static yX5_in, .initialized RX5, .code yX5_in cX5_in 3 (some .boolean)] ++ wsX50)
def wsX5_isNumber : List Cond := .code yX5_isNumber cX5_isNumber 1 (some .boolean) :: ([.methodLink RX5 30 yX5_in, .static yX5_in, .initialized RX5, .code yX5_in cX5_in 3 (some .boolean)])
def wsX5_holds : List Cond := .code yX5_holds cX5_holds 2 (some .int) :: ([.fieldLink RX5 7 "BlockClerksModel" "s" "[I", .methodLink RX5 34 yX5_c, .static yX5_c, .initialized RX5, .code yX5_c cX5_c 1 (some .int)] ++ wsX50)
def wsX5_many : List Cond := .code yX5_many cX5_many 4 (some .int) :: ([.fieldLink RX5 7 "BlockClerksModel" "s" "[I", .methodLink RX5 22 yX5_n, .static yX5_n, .initialized RX5, .code yX5_n cX5_n 1 (some .int)] ++ wsX50)
def wsX5_lowest : List Cond := .code yX5_lowest cX5_lowest 3 (some .int) :: ([.fieldLink RX5 7 "BlockClerksModel" "s" "[I", .methodLink RX5 22 yX5_n, .static yX5_n, .initialized RX5, .code yX5_n cX5_n 1 (some .int)] ++ wsX50)
def wsX5_goClerk : List Cond := .code yX5_goClerk cX5_goClerk 3 (some .int) :: ([.fieldLink RX5 7 "BlockClerksModel" "s" "[I", .methodLink RX5 34 yX5_c, .static yX5_c, .initialized RX5, .code yX5_c cX5_c 1 (some .int)] ++ wsX50)
def wsX5_clerk : List Cond := .code yX5_clerk cX5_clerk 2 (some .int) :: ([.fieldLink RX5 7 "BlockClerksModel" "s" "[I", .methodLink RX5 30 yX5_in, .static yX5_in, .initialized RX5, .code yX5_in cX5_in 3 (some .boolean), .methodLink RX5 37 yX5_record, .instanceMethod yX5_record, .selects RX5 yX5_record yX5_record, .code yX5_record cX5_record 2 none, .fieldLink RX5 26 "BlockClerksModel" "undoMany" "I", .fieldLink RX5 13 "BlockClerksModel" "before" "[I", .methodLink RX5 40 yX5_goClerk, .instanceMethod yX5_goClerk, .selects RX5 yX5_goClerk yX5_goClerk, .code yX5_goClerk cX5_goClerk 3 (some .int), .methodLink RX5 34 yX5_c, .static yX5_c, .code yX5_c cX5_c 1 (some .int)] ++ wsX50)
def wsX5_blockFrom : List Cond := .code yX5_blockFrom cX5_blockFrom 2 (some .int) :: ([.fieldLink RX5 7 "BlockClerksModel" "s" "[I", .methodLink RX5 43 yX5_lowest, .instanceMethod yX5_lowest, .selects RX5 yX5_lowest yX5_lowest, .initialized RX5, .code yX5_lowest cX5_lowest 3 (some .int), .methodLink RX5 22 yX5_n, .static yX5_n, .code yX5_n cX5_n 1 (some .int)] ++ wsX50)
def wsX5_getBlock : List Cond := .code yX5_getBlock cX5_getBlock 6 none :: ([.fieldLink RX5 7 "BlockClerksModel" "s" "[I", .methodLink RX5 34 yX5_c, .static yX5_c, .initialized RX5, .code yX5_c cX5_c 1 (some .int), .methodLink RX5 46 yX5_blockFrom, .instanceMethod yX5_blockFrom, .selects RX5 yX5_blockFrom yX5_blockFrom, .code yX5_blockFrom cX5_blockFrom 2 (some .int), .methodLink RX5 43 yX5_lowest, .instanceMethod yX5_lowest, .selects RX5 yX5_lowest yX5_lowest, .code yX5_lowest cX5_lowest 3 (some .int), .methodLink RX5 22 yX5_n, .static yX5_n, .code yX5_n cX5_n 1 (some .int)] ++ wsX50)
def wsX5_giveOne : List Cond := .code yX5_giveOne cX5_giveOne 5 none :: ([.fieldLink RX5 7 "BlockClerksModel" "s" "[I", .methodLink RX5 34 yX5_c, .static yX5_c, .initialized RX5, .code yX5_c cX5_c 1 (some .int), .methodLink RX5 50 yX5_holds, .instanceMethod yX5_holds, .selects RX5 yX5_holds yX5_holds, .code yX5_holds cX5_holds 2 (some .int), .methodLink RX5 53 yX5_getBlock, .instanceMethod yX5_getBlock, .selects RX5 yX5_getBlock yX5_getBlock, .code yX5_getBlock cX5_getBlock 6 none, .methodLink RX5 46 yX5_blockFrom, .instanceMethod yX5_blockFrom, .selects RX5 yX5_blockFrom yX5_blockFrom, .code yX5_blockFrom cX5_blockFrom 2 (some .int), .methodLink RX5 43 yX5_lowest, .instanceMethod yX5_lowest, .selects RX5 yX5_lowest yX5_lowest, .code yX5_lowest cX5_lowest 3 (some .int), .methodLink RX5 22 yX5_n, .static yX5_n, .code yX5_n cX5_n 1 (some .int)] ++ wsX50)
def wsX5_canAsk : List Cond := .code yX5_canAsk cX5_canAsk 3 (some .boolean) :: ([.fieldLink RX5 7 "BlockClerksModel" "s" "[I", .methodLink RX5 50 yX5_holds, .instanceMethod yX5_holds, .selects RX5 yX5_holds yX5_holds, .initialized RX5, .code yX5_holds cX5_holds 2 (some .int), .methodLink RX5 34 yX5_c, .static yX5_c, .code yX5_c cX5_c 1 (some .int), .methodLink RX5 57 yX5_many, .instanceMethod yX5_many, .selects RX5 yX5_many yX5_many, .code yX5_many cX5_many 4 (some .int), .methodLink RX5 22 yX5_n, .static yX5_n, .code yX5_n cX5_n 1 (some .int)] ++ wsX50)
def wsX5_goAsk_r1 : List Cond := [Cond.fieldLink RX5 7 "BlockClerksModel" "s" "[I", Cond.methodLink RX5 60 yX5_giveOne, Cond.instanceMethod yX5_giveOne, Cond.selects RX5 yX5_giveOne yX5_giveOne, Cond.initialized RX5, Cond.code yX5_giveOne cX5_giveOne 5 none, Cond.methodLink RX5 34 yX5_c, Cond.static yX5_c, Cond.code yX5_c cX5_c 1 (some .int), Cond.methodLink RX5 50 yX5_holds, Cond.instanceMethod yX5_holds, Cond.selects RX5 yX5_holds yX5_holds, Cond.code yX5_holds cX5_holds 2 (some .int), Cond.methodLink RX5 53 yX5_getBlock, Cond.instanceMethod yX5_getBlock, Cond.selects RX5 yX5_getBlock yX5_getBlock, Cond.code yX5_getBlock cX5_getBlock 6 none, Cond.methodLink RX5 46 yX5_blockFrom, Cond.instanceMethod yX5_blockFrom, Cond.selects RX5 yX5_blockFrom yX5_blockFrom, Cond.code yX5_blockFrom cX5_blockFrom 2 (some .int), Cond.methodLink RX5 43 yX5_lowest, Cond.instanceMethod yX5_lowest, Cond.selects RX5 yX5_lowest yX5_lowest]
def wsX5_goAsk_r2 : List Cond := [Cond.code yX5_lowest cX5_lowest 3 (some .int), Cond.methodLink RX5 22 yX5_n, Cond.static yX5_n, Cond.code yX5_n cX5_n 1 (some .int)]
def wsX5_goAsk : List Cond := .code yX5_goAsk cX5_goAsk 4 (some .int) :: ((wsX5_goAsk_r1 ++ wsX5_goAsk_r2) ++ wsX50)
def wsX5_ask_r1 : List Cond := [Cond.methodLink RX5 63 yX5_isClerk, Cond.instanceMethod yX5_isClerk, Cond.selects RX5 yX5_isClerk yX5_isClerk, Cond.initialized RX5, Cond.code yX5_isClerk cX5_isClerk 2 (some .boolean), Cond.fieldLink RX5 7 "BlockClerksModel" "s" "[I", Cond.methodLink RX5 30 yX5_in, Cond.static yX5_in, Cond.code yX5_in cX5_in 3 (some .boolean), Cond.methodLink RX5 67 yX5_canAsk, Cond.instanceMethod yX5_canAsk, Cond.selects RX5 yX5_canAsk yX5_canAsk, Cond.code yX5_canAsk cX5_canAsk 3 (some .boolean), Cond.methodLink RX5 50 yX5_holds, Cond.instanceMethod yX5_holds, Cond.selects RX5 yX5_holds yX5_holds, Cond.code yX5_holds cX5_holds 2 (some .int), Cond.methodLink RX5 34 yX5_c, Cond.static yX5_c, Cond.code yX5_c cX5_c 1 (some .int), Cond.methodLink RX5 57 yX5_many, Cond.instanceMethod yX5_many, Cond.selects RX5 yX5_many yX5_many, Cond.code yX5_many cX5_many 4 (some .int)]
def wsX5_ask_r2 : List Cond := [Cond.methodLink RX5 22 yX5_n, Cond.static yX5_n, Cond.code yX5_n cX5_n 1 (some .int), Cond.methodLink RX5 37 yX5_record, Cond.instanceMethod yX5_record, Cond.selects RX5 yX5_record yX5_record, Cond.code yX5_record cX5_record 2 none, Cond.fieldLink RX5 26 "BlockClerksModel" "undoMany" "I", Cond.fieldLink RX5 13 "BlockClerksModel" "before" "[I", Cond.methodLink RX5 71 yX5_goAsk, Cond.instanceMethod yX5_goAsk, Cond.selects RX5 yX5_goAsk yX5_goAsk, Cond.code yX5_goAsk cX5_goAsk 4 (some .int), Cond.methodLink RX5 60 yX5_giveOne, Cond.instanceMethod yX5_giveOne, Cond.selects RX5 yX5_giveOne yX5_giveOne, Cond.code yX5_giveOne cX5_giveOne 5 none, Cond.methodLink RX5 53 yX5_getBlock, Cond.instanceMethod yX5_getBlock, Cond.selects RX5 yX5_getBlock yX5_getBlock, Cond.code yX5_getBlock cX5_getBlock 6 none, Cond.methodLink RX5 46 yX5_blockFrom, Cond.instanceMethod yX5_blockFrom, Cond.selects RX5 yX5_blockFrom yX5_blockFrom]
def wsX5_ask_r3 : List Cond := [Cond.code yX5_blockFrom cX5_blockFrom 2 (some .int), Cond.methodLink RX5 43 yX5_lowest, Cond.instanceMethod yX5_lowest, Cond.selects RX5 yX5_lowest yX5_lowest, Cond.code yX5_lowest cX5_lowest 3 (some .int)]
def wsX5_ask : List Cond := .code yX5_ask cX5_ask 3 (some .int) :: ((wsX5_ask_r1 ++ (wsX5_ask_r2 ++ wsX5_ask_r3)) ++ wsX50)
def wsX5_makeHole : List Cond := .code yX5_makeHole cX5_makeHole 3 none :: ([.fieldLink RX5 7 "BlockClerksModel" "s" "[I", .methodLink RX5 22 yX5_n, .static yX5_n, .initialized RX5, .code yX5_n cX5_n 1 (some .int)] ++ wsX50)
def wsX5_goForget : List Cond := .code yX5_goForget cX5_goForget 4 (some .int) :: ([.fieldLink RX5 7 "BlockClerksModel" "s" "[I", .methodLink RX5 34 yX5_c, .static yX5_c, .initialized RX5, .code yX5_c cX5_c 1 (some .int), .methodLink RX5 50 yX5_holds, .instanceMethod yX5_holds, .selects RX5 yX5_holds yX5_holds, .code yX5_holds cX5_holds 2 (some .int), .methodLink RX5 75 yX5_makeHole, .instanceMethod yX5_makeHole, .selects RX5 yX5_makeHole yX5_makeHole, .code yX5_makeHole cX5_makeHole 3 none, .methodLink RX5 22 yX5_n, .static yX5_n, .code yX5_n cX5_n 1 (some .int)] ++ wsX50)
def wsX5_forget_r1 : List Cond := [Cond.methodLink RX5 63 yX5_isClerk, Cond.instanceMethod yX5_isClerk, Cond.selects RX5 yX5_isClerk yX5_isClerk, Cond.initialized RX5, Cond.code yX5_isClerk cX5_isClerk 2 (some .boolean), Cond.fieldLink RX5 7 "BlockClerksModel" "s" "[I", Cond.methodLink RX5 30 yX5_in, Cond.static yX5_in, Cond.code yX5_in cX5_in 3 (some .boolean), Cond.methodLink RX5 50 yX5_holds, Cond.instanceMethod yX5_holds, Cond.selects RX5 yX5_holds yX5_holds, Cond.code yX5_holds cX5_holds 2 (some .int), Cond.methodLink RX5 34 yX5_c, Cond.static yX5_c, Cond.code yX5_c cX5_c 1 (some .int), Cond.methodLink RX5 37 yX5_record, Cond.instanceMethod yX5_record, Cond.selects RX5 yX5_record yX5_record, Cond.code yX5_record cX5_record 2 none, Cond.fieldLink RX5 26 "BlockClerksModel" "undoMany" "I", Cond.fieldLink RX5 13 "BlockClerksModel" "before" "[I", Cond.methodLink RX5 79 yX5_goForget, Cond.instanceMethod yX5_goForget]
def wsX5_forget_r2 : List Cond := [Cond.selects RX5 yX5_goForget yX5_goForget, Cond.code yX5_goForget cX5_goForget 4 (some .int), Cond.methodLink RX5 75 yX5_makeHole, Cond.instanceMethod yX5_makeHole, Cond.selects RX5 yX5_makeHole yX5_makeHole, Cond.code yX5_makeHole cX5_makeHole 3 none, Cond.methodLink RX5 22 yX5_n, Cond.static yX5_n, Cond.code yX5_n cX5_n 1 (some .int)]
def wsX5_forget : List Cond := .code yX5_forget cX5_forget 2 (some .int) :: ((wsX5_forget_r1 ++ wsX5_forget_r2) ++ wsX50)
def wsX5_goBack : List Cond := .code yX5_goBack cX5_goBack 4 (some .int) :: ([.fieldLink RX5 7 "BlockClerksModel" "s" "[I", .methodLink RX5 34 yX5_c, .static yX5_c, .initialized RX5, .code yX5_c cX5_c 1 (some .int), .methodLink RX5 50 yX5_holds, .instanceMethod yX5_holds, .selects RX5 yX5_holds yX5_holds, .code yX5_holds cX5_holds 2 (some .int), .methodLink RX5 22 yX5_n, .static yX5_n, .code yX5_n cX5_n 1 (some .int), .methodLink RX5 75 yX5_makeHole, .instanceMethod yX5_makeHole, .selects RX5 yX5_makeHole yX5_makeHole, .code yX5_makeHole cX5_makeHole 3 none] ++ wsX50)
def wsX5_giveBack_r1 : List Cond := [Cond.methodLink RX5 63 yX5_isClerk, Cond.instanceMethod yX5_isClerk, Cond.selects RX5 yX5_isClerk yX5_isClerk, Cond.initialized RX5, Cond.code yX5_isClerk cX5_isClerk 2 (some .boolean), Cond.fieldLink RX5 7 "BlockClerksModel" "s" "[I", Cond.methodLink RX5 30 yX5_in, Cond.static yX5_in, Cond.code yX5_in cX5_in 3 (some .boolean), Cond.methodLink RX5 50 yX5_holds, Cond.instanceMethod yX5_holds, Cond.selects RX5 yX5_holds yX5_holds, Cond.code yX5_holds cX5_holds 2 (some .int), Cond.methodLink RX5 34 yX5_c, Cond.static yX5_c, Cond.code yX5_c cX5_c 1 (some .int), Cond.methodLink RX5 37 yX5_record, Cond.instanceMethod yX5_record, Cond.selects RX5 yX5_record yX5_record, Cond.code yX5_record cX5_record 2 none, Cond.fieldLink RX5 26 "BlockClerksModel" "undoMany" "I", Cond.fieldLink RX5 13 "BlockClerksModel" "before" "[I", Cond.methodLink RX5 82 yX5_goBack, Cond.instanceMethod yX5_goBack]
def wsX5_giveBack_r2 : List Cond := [Cond.selects RX5 yX5_goBack yX5_goBack, Cond.code yX5_goBack cX5_goBack 4 (some .int), Cond.methodLink RX5 22 yX5_n, Cond.static yX5_n, Cond.code yX5_n cX5_n 1 (some .int), Cond.methodLink RX5 75 yX5_makeHole, Cond.instanceMethod yX5_makeHole, Cond.selects RX5 yX5_makeHole yX5_makeHole, Cond.code yX5_makeHole cX5_makeHole 3 none]
def wsX5_giveBack : List Cond := .code yX5_giveBack cX5_giveBack 2 (some .int) :: ((wsX5_giveBack_r1 ++ wsX5_giveBack_r2) ++ wsX50)
def wsX5_makeVoid : List Cond := .code yX5_makeVoid cX5_makeVoid 2 (some .int) :: ([.fieldLink RX5 7 "BlockClerksModel" "s" "[I", .methodLink RX5 85 yX5_isNumber, .static yX5_isNumber, .initialized RX5, .code yX5_isNumber cX5_isNumber 1 (some .boolean), .methodLink RX5 30 yX5_in, .static yX5_in, .code yX5_in cX5_in 3 (some .boolean), .methodLink RX5 22 yX5_n, .static yX5_n, .code yX5_n cX5_n 1 (some .int), .methodLink RX5 37 yX5_record, .instanceMethod yX5_record, .selects RX5 yX5_record yX5_record, .code yX5_record cX5_record 2 none, .fieldLink RX5 26 "BlockClerksModel" "undoMany" "I", .fieldLink RX5 13 "BlockClerksModel" "before" "[I", .methodLink RX5 75 yX5_makeHole, .instanceMethod yX5_makeHole, .selects RX5 yX5_makeHole yX5_makeHole, .code yX5_makeHole cX5_makeHole 3 none] ++ wsX50)
def wsX5_goClose : List Cond := .code yX5_goClose cX5_goClose 3 (some .int) :: ([.fieldLink RX5 7 "BlockClerksModel" "s" "[I", .methodLink RX5 22 yX5_n, .static yX5_n, .initialized RX5, .code yX5_n cX5_n 1 (some .int), .methodLink RX5 75 yX5_makeHole, .instanceMethod yX5_makeHole, .selects RX5 yX5_makeHole yX5_makeHole, .code yX5_makeHole cX5_makeHole 3 none, .methodLink RX5 34 yX5_c, .static yX5_c, .code yX5_c cX5_c 1 (some .int)] ++ wsX50)
def wsX5_close : List Cond := .code yX5_close cX5_close 1 (some .int) :: ([.methodLink RX5 37 yX5_record, .instanceMethod yX5_record, .selects RX5 yX5_record yX5_record, .initialized RX5, .code yX5_record cX5_record 2 none, .fieldLink RX5 26 "BlockClerksModel" "undoMany" "I", .fieldLink RX5 13 "BlockClerksModel" "before" "[I", .fieldLink RX5 7 "BlockClerksModel" "s" "[I", .methodLink RX5 88 yX5_goClose, .instanceMethod yX5_goClose, .selects RX5 yX5_goClose yX5_goClose, .code yX5_goClose cX5_goClose 3 (some .int), .methodLink RX5 22 yX5_n, .static yX5_n, .code yX5_n cX5_n 1 (some .int), .methodLink RX5 75 yX5_makeHole, .instanceMethod yX5_makeHole, .selects RX5 yX5_makeHole yX5_makeHole, .code yX5_makeHole cX5_makeHole 3 none, .methodLink RX5 34 yX5_c, .static yX5_c, .code yX5_c cX5_c 1 (some .int)] ++ wsX50)
def wsX5_set : List Cond := .code yX5_set cX5_set 5 (some .int) :: ([.fieldLink RX5 7 "BlockClerksModel" "s" "[I", .methodLink RX5 30 yX5_in, .static yX5_in, .initialized RX5, .code yX5_in cX5_in 3 (some .boolean), .methodLink RX5 37 yX5_record, .instanceMethod yX5_record, .selects RX5 yX5_record yX5_record, .code yX5_record cX5_record 2 none, .fieldLink RX5 26 "BlockClerksModel" "undoMany" "I", .fieldLink RX5 13 "BlockClerksModel" "before" "[I"] ++ wsX50)
def wsX5_isLate : List Cond := .code yX5_isLate cX5_isLate 4 (some .boolean) :: ([.fieldLink RX5 7 "BlockClerksModel" "s" "[I", .methodLink RX5 22 yX5_n, .static yX5_n, .initialized RX5, .code yX5_n cX5_n 1 (some .int)] ++ wsX50)
def wsX5_numberOf : List Cond := .code yX5_numberOf cX5_numberOf 5 (some .int) :: ([.fieldLink RX5 7 "BlockClerksModel" "s" "[I", .methodLink RX5 85 yX5_isNumber, .static yX5_isNumber, .initialized RX5, .code yX5_isNumber cX5_isNumber 1 (some .boolean), .methodLink RX5 30 yX5_in, .static yX5_in, .code yX5_in cX5_in 3 (some .boolean), .methodLink RX5 22 yX5_n, .static yX5_n, .code yX5_n cX5_n 1 (some .int), .methodLink RX5 91 yX5_isLate, .instanceMethod yX5_isLate, .selects RX5 yX5_isLate yX5_isLate, .code yX5_isLate cX5_isLate 4 (some .boolean)] ++ wsX50)
def wsX5_holesOf : List Cond := .code yX5_holesOf cX5_holesOf 6 (some .int) :: ([.fieldLink RX5 7 "BlockClerksModel" "s" "[I", .methodLink RX5 22 yX5_n, .static yX5_n, .initialized RX5, .code yX5_n cX5_n 1 (some .int)] ++ wsX50)
def wsX5_clerkOf : List Cond := .code yX5_clerkOf cX5_clerkOf 4 (some .int) :: ([.fieldLink RX5 7 "BlockClerksModel" "s" "[I", .methodLink RX5 63 yX5_isClerk, .instanceMethod yX5_isClerk, .selects RX5 yX5_isClerk yX5_isClerk, .initialized RX5, .code yX5_isClerk cX5_isClerk 2 (some .boolean), .methodLink RX5 30 yX5_in, .static yX5_in, .code yX5_in cX5_in 3 (some .boolean), .methodLink RX5 34 yX5_c, .static yX5_c, .code yX5_c cX5_c 1 (some .int), .methodLink RX5 50 yX5_holds, .instanceMethod yX5_holds, .selects RX5 yX5_holds yX5_holds, .code yX5_holds cX5_holds 2 (some .int), .methodLink RX5 94 yX5_holesOf, .instanceMethod yX5_holesOf, .selects RX5 yX5_holesOf yX5_holesOf, .code yX5_holesOf cX5_holesOf 6 (some .int), .methodLink RX5 22 yX5_n, .static yX5_n, .code yX5_n cX5_n 1 (some .int)] ++ wsX50)
def wsX5_goesOn : List Cond := .code yX5_goesOn cX5_goesOn 4 (some .boolean) :: ([.fieldLink RX5 7 "BlockClerksModel" "s" "[I", .methodLink RX5 22 yX5_n, .static yX5_n, .initialized RX5, .code yX5_n cX5_n 1 (some .int)] ++ wsX50)
def wsX5_rowAt : List Cond := .code yX5_rowAt cX5_rowAt 5 (some .int) :: ([.fieldLink RX5 7 "BlockClerksModel" "s" "[I", .methodLink RX5 22 yX5_n, .static yX5_n, .initialized RX5, .code yX5_n cX5_n 1 (some .int), .methodLink RX5 97 yX5_goesOn, .instanceMethod yX5_goesOn, .selects RX5 yX5_goesOn yX5_goesOn, .code yX5_goesOn cX5_goesOn 4 (some .boolean)] ++ wsX50)
def wsX5_endOf : List Cond := .code yX5_endOf cX5_endOf 4 (some .int) :: ([.methodLink RX5 97 yX5_goesOn, .instanceMethod yX5_goesOn, .selects RX5 yX5_goesOn yX5_goesOn, .initialized RX5, .code yX5_goesOn cX5_goesOn 4 (some .boolean), .fieldLink RX5 7 "BlockClerksModel" "s" "[I", .methodLink RX5 22 yX5_n, .static yX5_n, .code yX5_n cX5_n 1 (some .int)] ++ wsX50)
def wsX5_holesAt : List Cond := .code yX5_holesAt cX5_holesAt 4 (some .int) :: ([.fieldLink RX5 7 "BlockClerksModel" "s" "[I", .methodLink RX5 30 yX5_in, .static yX5_in, .initialized RX5, .code yX5_in cX5_in 3 (some .boolean), .methodLink RX5 100 yX5_rowAt, .instanceMethod yX5_rowAt, .selects RX5 yX5_rowAt yX5_rowAt, .code yX5_rowAt cX5_rowAt 5 (some .int), .methodLink RX5 22 yX5_n, .static yX5_n, .code yX5_n cX5_n 1 (some .int), .methodLink RX5 97 yX5_goesOn, .instanceMethod yX5_goesOn, .selects RX5 yX5_goesOn yX5_goesOn, .code yX5_goesOn cX5_goesOn 4 (some .boolean), .methodLink RX5 103 yX5_endOf, .instanceMethod yX5_endOf, .selects RX5 yX5_endOf yX5_endOf, .code yX5_endOf cX5_endOf 4 (some .int)] ++ wsX50)
def wsX5_freeAt : List Cond := .code yX5_freeAt cX5_freeAt 4 (some .int) :: ([.methodLink RX5 30 yX5_in, .static yX5_in, .initialized RX5, .code yX5_in cX5_in 3 (some .boolean), .methodLink RX5 100 yX5_rowAt, .instanceMethod yX5_rowAt, .selects RX5 yX5_rowAt yX5_rowAt, .code yX5_rowAt cX5_rowAt 5 (some .int), .fieldLink RX5 7 "BlockClerksModel" "s" "[I", .methodLink RX5 22 yX5_n, .static yX5_n, .code yX5_n cX5_n 1 (some .int), .methodLink RX5 97 yX5_goesOn, .instanceMethod yX5_goesOn, .selects RX5 yX5_goesOn yX5_goesOn, .code yX5_goesOn cX5_goesOn 4 (some .boolean), .methodLink RX5 103 yX5_endOf, .instanceMethod yX5_endOf, .selects RX5 yX5_endOf yX5_endOf, .code yX5_endOf cX5_endOf 4 (some .int)] ++ wsX50)
def wsX5_turnAt : List Cond := .code yX5_turnAt cX5_turnAt 3 (some .int) :: ([.fieldLink RX5 7 "BlockClerksModel" "s" "[I", .methodLink RX5 22 yX5_n, .static yX5_n, .initialized RX5, .code yX5_n cX5_n 1 (some .int)] ++ wsX50)
def wsX5_among : List Cond := .code yX5_among cX5_among 7 (some .int) :: ([.fieldLink RX5 7 "BlockClerksModel" "s" "[I", .methodLink RX5 85 yX5_isNumber, .static yX5_isNumber, .initialized RX5, .code yX5_isNumber cX5_isNumber 1 (some .boolean), .methodLink RX5 30 yX5_in, .static yX5_in, .code yX5_in cX5_in 3 (some .boolean), .methodLink RX5 22 yX5_n, .static yX5_n, .code yX5_n cX5_n 1 (some .int)] ++ wsX50)
def wsX5_lateMany : List Cond := .code yX5_lateMany cX5_lateMany 5 (some .int) :: ([.fieldLink RX5 7 "BlockClerksModel" "s" "[I", .methodLink RX5 22 yX5_n, .static yX5_n, .initialized RX5, .code yX5_n cX5_n 1 (some .int)] ++ wsX50)
def wsX5_rows : List Cond := .code yX5_rows cX5_rows 3 (some .int) :: ([.fieldLink RX5 7 "BlockClerksModel" "s" "[I", .methodLink RX5 22 yX5_n, .static yX5_n, .initialized RX5, .code yX5_n cX5_n 1 (some .int), .methodLink RX5 97 yX5_goesOn, .instanceMethod yX5_goesOn, .selects RX5 yX5_goesOn yX5_goesOn, .code yX5_goesOn cX5_goesOn 4 (some .boolean)] ++ wsX50)
def wsX5_whole : List Cond := .code yX5_whole cX5_whole 2 (some .int) :: ([.fieldLink RX5 7 "BlockClerksModel" "s" "[I", .methodLink RX5 22 yX5_n, .static yX5_n, .initialized RX5, .code yX5_n cX5_n 1 (some .int)] ++ wsX50)
def wsX5_count_r1 : List Cond := [Cond.fieldLink RX5 7 "BlockClerksModel" "s" "[I", Cond.fieldLink RX5 26 "BlockClerksModel" "undoMany" "I", Cond.fieldLink RX5 115 "BlockClerksModel" "length" "I", Cond.methodLink RX5 57 yX5_many, Cond.instanceMethod yX5_many, Cond.selects RX5 yX5_many yX5_many, Cond.initialized RX5, Cond.code yX5_many cX5_many 4 (some .int), Cond.methodLink RX5 22 yX5_n, Cond.static yX5_n, Cond.code yX5_n cX5_n 1 (some .int), Cond.methodLink RX5 43 yX5_lowest, Cond.instanceMethod yX5_lowest, Cond.selects RX5 yX5_lowest yX5_lowest, Cond.code yX5_lowest cX5_lowest 3 (some .int), Cond.methodLink RX5 106 yX5_lateMany, Cond.instanceMethod yX5_lateMany, Cond.selects RX5 yX5_lateMany yX5_lateMany, Cond.code yX5_lateMany cX5_lateMany 5 (some .int), Cond.methodLink RX5 109 yX5_whole, Cond.instanceMethod yX5_whole, Cond.selects RX5 yX5_whole yX5_whole, Cond.code yX5_whole cX5_whole 2 (some .int), Cond.methodLink RX5 112 yX5_rows]
def wsX5_count_r2 : List Cond := [Cond.instanceMethod yX5_rows, Cond.selects RX5 yX5_rows yX5_rows, Cond.code yX5_rows cX5_rows 3 (some .int), Cond.methodLink RX5 97 yX5_goesOn, Cond.instanceMethod yX5_goesOn, Cond.selects RX5 yX5_goesOn yX5_goesOn, Cond.code yX5_goesOn cX5_goesOn 4 (some .boolean), Cond.methodLink RX5 30 yX5_in, Cond.static yX5_in, Cond.code yX5_in cX5_in 3 (some .boolean)]
def wsX5_count : List Cond := .code yX5_count cX5_count 2 (some .int) :: ((wsX5_count_r1 ++ wsX5_count_r2) ++ wsX50)
def wsX5_next_r1 : List Cond := [Cond.fieldLink RX5 7 "BlockClerksModel" "s" "[I", Cond.methodLink RX5 63 yX5_isClerk, Cond.instanceMethod yX5_isClerk, Cond.selects RX5 yX5_isClerk yX5_isClerk, Cond.initialized RX5, Cond.code yX5_isClerk cX5_isClerk 2 (some .boolean), Cond.methodLink RX5 30 yX5_in, Cond.static yX5_in, Cond.code yX5_in cX5_in 3 (some .boolean), Cond.methodLink RX5 50 yX5_holds, Cond.instanceMethod yX5_holds, Cond.selects RX5 yX5_holds yX5_holds, Cond.code yX5_holds cX5_holds 2 (some .int), Cond.methodLink RX5 34 yX5_c, Cond.static yX5_c, Cond.code yX5_c cX5_c 1 (some .int), Cond.methodLink RX5 46 yX5_blockFrom, Cond.instanceMethod yX5_blockFrom, Cond.selects RX5 yX5_blockFrom yX5_blockFrom, Cond.code yX5_blockFrom cX5_blockFrom 2 (some .int), Cond.methodLink RX5 43 yX5_lowest, Cond.instanceMethod yX5_lowest, Cond.selects RX5 yX5_lowest yX5_lowest, Cond.code yX5_lowest cX5_lowest 3 (some .int)]
def wsX5_next_r2 : List Cond := [Cond.methodLink RX5 22 yX5_n, Cond.static yX5_n, Cond.code yX5_n cX5_n 1 (some .int)]
def wsX5_next : List Cond := .code yX5_next cX5_next 3 (some .int) :: ((wsX5_next_r1 ++ wsX5_next_r2) ++ wsX50)
def wsX5_cost_r1 : List Cond := [Cond.methodLink RX5 63 yX5_isClerk, Cond.instanceMethod yX5_isClerk, Cond.selects RX5 yX5_isClerk yX5_isClerk, Cond.initialized RX5, Cond.code yX5_isClerk cX5_isClerk 2 (some .boolean), Cond.fieldLink RX5 7 "BlockClerksModel" "s" "[I", Cond.methodLink RX5 30 yX5_in, Cond.static yX5_in, Cond.code yX5_in cX5_in 3 (some .boolean), Cond.methodLink RX5 67 yX5_canAsk, Cond.instanceMethod yX5_canAsk, Cond.selects RX5 yX5_canAsk yX5_canAsk, Cond.code yX5_canAsk cX5_canAsk 3 (some .boolean), Cond.methodLink RX5 50 yX5_holds, Cond.instanceMethod yX5_holds, Cond.selects RX5 yX5_holds yX5_holds, Cond.code yX5_holds cX5_holds 2 (some .int), Cond.methodLink RX5 34 yX5_c, Cond.static yX5_c, Cond.code yX5_c cX5_c 1 (some .int), Cond.methodLink RX5 57 yX5_many, Cond.instanceMethod yX5_many, Cond.selects RX5 yX5_many yX5_many, Cond.code yX5_many cX5_many 4 (some .int)]
def wsX5_cost_r2 : List Cond := [Cond.methodLink RX5 22 yX5_n, Cond.static yX5_n, Cond.code yX5_n cX5_n 1 (some .int), Cond.methodLink RX5 118 yX5_layAside, Cond.instanceMethod yX5_layAside, Cond.selects RX5 yX5_layAside yX5_layAside, Cond.code yX5_layAside cX5_layAside 2 none, Cond.fieldLink RX5 16 "BlockClerksModel" "aside" "[I", Cond.methodLink RX5 71 yX5_goAsk, Cond.instanceMethod yX5_goAsk, Cond.selects RX5 yX5_goAsk yX5_goAsk, Cond.code yX5_goAsk cX5_goAsk 4 (some .int), Cond.methodLink RX5 60 yX5_giveOne, Cond.instanceMethod yX5_giveOne, Cond.selects RX5 yX5_giveOne yX5_giveOne, Cond.code yX5_giveOne cX5_giveOne 5 none, Cond.methodLink RX5 53 yX5_getBlock, Cond.instanceMethod yX5_getBlock, Cond.selects RX5 yX5_getBlock yX5_getBlock, Cond.code yX5_getBlock cX5_getBlock 6 none, Cond.methodLink RX5 46 yX5_blockFrom, Cond.instanceMethod yX5_blockFrom, Cond.selects RX5 yX5_blockFrom yX5_blockFrom, Cond.code yX5_blockFrom cX5_blockFrom 2 (some .int)]
def wsX5_cost_r3 : List Cond := [Cond.methodLink RX5 43 yX5_lowest, Cond.instanceMethod yX5_lowest, Cond.selects RX5 yX5_lowest yX5_lowest, Cond.code yX5_lowest cX5_lowest 3 (some .int), Cond.methodLink RX5 79 yX5_goForget, Cond.instanceMethod yX5_goForget, Cond.selects RX5 yX5_goForget yX5_goForget, Cond.code yX5_goForget cX5_goForget 4 (some .int), Cond.methodLink RX5 75 yX5_makeHole, Cond.instanceMethod yX5_makeHole, Cond.selects RX5 yX5_makeHole yX5_makeHole, Cond.code yX5_makeHole cX5_makeHole 3 none, Cond.methodLink RX5 121 yX5_layBack, Cond.instanceMethod yX5_layBack, Cond.selects RX5 yX5_layBack yX5_layBack, Cond.code yX5_layBack cX5_layBack 2 none]
def wsX5_cost : List Cond := .code yX5_cost cX5_cost 4 (some .int) :: ((wsX5_cost_r1 ++ (wsX5_cost_r2 ++ wsX5_cost_r3)) ++ wsX50)
def wsX5_forgets : List Cond := .code yX5_forgets cX5_forgets 4 (some .int) :: ([.fieldLink RX5 7 "BlockClerksModel" "s" "[I", .methodLink RX5 34 yX5_c, .static yX5_c, .initialized RX5, .code yX5_c cX5_c 1 (some .int), .methodLink RX5 50 yX5_holds, .instanceMethod yX5_holds, .selects RX5 yX5_holds yX5_holds, .code yX5_holds cX5_holds 2 (some .int)] ++ wsX50)
def wsX5_worst : List Cond := .code yX5_worst cX5_worst 4 (some .int) :: ([.fieldLink RX5 7 "BlockClerksModel" "s" "[I", .methodLink RX5 124 yX5_forgets, .instanceMethod yX5_forgets, .selects RX5 yX5_forgets yX5_forgets, .initialized RX5, .code yX5_forgets cX5_forgets 4 (some .int), .methodLink RX5 34 yX5_c, .static yX5_c, .code yX5_c cX5_c 1 (some .int), .methodLink RX5 50 yX5_holds, .instanceMethod yX5_holds, .selects RX5 yX5_holds yX5_holds, .code yX5_holds cX5_holds 2 (some .int)] ++ wsX50)
def wsX5_undo : List Cond := .code yX5_undo cX5_undo 2 (some .int) :: ([.fieldLink RX5 26 "BlockClerksModel" "undoMany" "I", .fieldLink RX5 7 "BlockClerksModel" "s" "[I", .fieldLink RX5 13 "BlockClerksModel" "before" "[I"] ++ wsX50)
def wsX5_type : List Cond := .code yX5_type cX5_type 2 (some .int) :: ([.fieldLink RX5 115 "BlockClerksModel" "length" "I", .fieldLink RX5 19 "BlockClerksModel" "text" "[I", .methodLink RX5 30 yX5_in, .static yX5_in, .initialized RX5, .code yX5_in cX5_in 3 (some .boolean)] ++ wsX50)
def wsX5_clearText : List Cond := .code yX5_clearText cX5_clearText 2 (some .int) :: ([.fieldLink RX5 115 "BlockClerksModel" "length" "I"] ++ wsX50)
def wsX5_has : List Cond := .code yX5_has cX5_has 3 (some .boolean) :: ([.fieldLink RX5 127 "BlockClerksModel" "at" "I", .fieldLink RX5 115 "BlockClerksModel" "length" "I", .fieldLink RX5 19 "BlockClerksModel" "text" "[I"] ++ wsX50)
def wsX5_one : List Cond := .code yX5_one cX5_one 1 (some .int) :: ([])
def wsX5_sees : List Cond := .code yX5_sees cX5_sees 9 (some .boolean) :: ([.fieldLink RX5 127 "BlockClerksModel" "at" "I", .methodLink RX5 130 yX5_has, .instanceMethod yX5_has, .selects RX5 yX5_has yX5_has, .initialized RX5, .code yX5_has cX5_has 3 (some .boolean), .fieldLink RX5 115 "BlockClerksModel" "length" "I", .fieldLink RX5 19 "BlockClerksModel" "text" "[I", .methodLink RX5 133 yX5_one, .static yX5_one, .code yX5_one cX5_one 1 (some .int)] ++ wsX50)
def wsX5_number : List Cond := .code yX5_number cX5_number 3 (some .int) :: ([.fieldLink RX5 127 "BlockClerksModel" "at" "I", .fieldLink RX5 115 "BlockClerksModel" "length" "I", .fieldLink RX5 19 "BlockClerksModel" "text" "[I", .methodLink RX5 30 yX5_in, .static yX5_in, .initialized RX5, .code yX5_in cX5_in 3 (some .boolean)] ++ wsX50)
def wsX5_wordAt : List Cond := .code yX5_wordAt cX5_wordAt 1 (some .int) :: ([.methodLink RX5 136 yX5_sees, .instanceMethod yX5_sees, .selects RX5 yX5_sees yX5_sees, .initialized RX5, .code yX5_sees cX5_sees 9 (some .boolean), .fieldLink RX5 127 "BlockClerksModel" "at" "I", .methodLink RX5 130 yX5_has, .instanceMethod yX5_has, .selects RX5 yX5_has yX5_has, .code yX5_has cX5_has 3 (some .boolean), .fieldLink RX5 115 "BlockClerksModel" "length" "I", .fieldLink RX5 19 "BlockClerksModel" "text" "[I", .methodLink RX5 133 yX5_one, .static yX5_one, .code yX5_one cX5_one 1 (some .int)] ++ wsX50)
def wsX5_kindAt : List Cond := .code yX5_kindAt cX5_kindAt 1 (some .int) :: ([.methodLink RX5 136 yX5_sees, .instanceMethod yX5_sees, .selects RX5 yX5_sees yX5_sees, .initialized RX5, .code yX5_sees cX5_sees 9 (some .boolean), .fieldLink RX5 127 "BlockClerksModel" "at" "I", .methodLink RX5 130 yX5_has, .instanceMethod yX5_has, .selects RX5 yX5_has yX5_has, .code yX5_has cX5_has 3 (some .boolean), .fieldLink RX5 115 "BlockClerksModel" "length" "I", .fieldLink RX5 19 "BlockClerksModel" "text" "[I", .methodLink RX5 133 yX5_one, .static yX5_one, .code yX5_one cX5_one 1 (some .int)] ++ wsX50)
def wsX5_isForm_r1 : List Cond := [Cond.fieldLink RX5 143 "BlockClerksModel" "word" "I", Cond.fieldLink RX5 146 "BlockClerksModel" "first" "I", Cond.fieldLink RX5 149 "BlockClerksModel" "second" "I", Cond.methodLink RX5 140 yX5_wordAt, Cond.instanceMethod yX5_wordAt, Cond.selects RX5 yX5_wordAt yX5_wordAt, Cond.initialized RX5, Cond.code yX5_wordAt cX5_wordAt 1 (some .int), Cond.methodLink RX5 136 yX5_sees, Cond.instanceMethod yX5_sees, Cond.selects RX5 yX5_sees yX5_sees, Cond.code yX5_sees cX5_sees 9 (some .boolean), Cond.fieldLink RX5 127 "BlockClerksModel" "at" "I", Cond.methodLink RX5 130 yX5_has, Cond.instanceMethod yX5_has, Cond.selects RX5 yX5_has yX5_has, Cond.code yX5_has cX5_has 3 (some .boolean), Cond.fieldLink RX5 115 "BlockClerksModel" "length" "I", Cond.fieldLink RX5 19 "BlockClerksModel" "text" "[I", Cond.methodLink RX5 133 yX5_one, Cond.static yX5_one, Cond.code yX5_one cX5_one 1 (some .int), Cond.methodLink RX5 152 yX5_kindAt, Cond.instanceMethod yX5_kindAt]
def wsX5_isForm_r2 : List Cond := [Cond.selects RX5 yX5_kindAt yX5_kindAt, Cond.code yX5_kindAt cX5_kindAt 1 (some .int), Cond.methodLink RX5 155 yX5_number, Cond.instanceMethod yX5_number, Cond.selects RX5 yX5_number yX5_number, Cond.code yX5_number cX5_number 3 (some .int), Cond.methodLink RX5 30 yX5_in, Cond.static yX5_in, Cond.code yX5_in cX5_in 3 (some .boolean)]
def wsX5_isForm : List Cond := .code yX5_isForm cX5_isForm 1 (some .boolean) :: ((wsX5_isForm_r1 ++ wsX5_isForm_r2) ++ wsX50)
def wsX5_isRange : List Cond := .code yX5_isRange cX5_isRange 1 (some .boolean) :: ([.fieldLink RX5 143 "BlockClerksModel" "word" "I", .fieldLink RX5 146 "BlockClerksModel" "first" "I", .fieldLink RX5 149 "BlockClerksModel" "second" "I", .methodLink RX5 63 yX5_isClerk, .instanceMethod yX5_isClerk, .selects RX5 yX5_isClerk yX5_isClerk, .initialized RX5, .code yX5_isClerk cX5_isClerk 2 (some .boolean), .fieldLink RX5 7 "BlockClerksModel" "s" "[I", .methodLink RX5 30 yX5_in, .static yX5_in, .code yX5_in cX5_in 3 (some .boolean), .methodLink RX5 85 yX5_isNumber, .static yX5_isNumber, .code yX5_isNumber cX5_isNumber 1 (some .boolean)] ++ wsX50)
def wsX5_isPossible : List Cond := .code yX5_isPossible cX5_isPossible 1 (some .boolean) :: ([.fieldLink RX5 143 "BlockClerksModel" "word" "I", .fieldLink RX5 7 "BlockClerksModel" "s" "[I", .fieldLink RX5 146 "BlockClerksModel" "first" "I", .fieldLink RX5 149 "BlockClerksModel" "second" "I", .methodLink RX5 67 yX5_canAsk, .instanceMethod yX5_canAsk, .selects RX5 yX5_canAsk yX5_canAsk, .initialized RX5, .code yX5_canAsk cX5_canAsk 3 (some .boolean), .methodLink RX5 50 yX5_holds, .instanceMethod yX5_holds, .selects RX5 yX5_holds yX5_holds, .code yX5_holds cX5_holds 2 (some .int), .methodLink RX5 34 yX5_c, .static yX5_c, .code yX5_c cX5_c 1 (some .int), .methodLink RX5 57 yX5_many, .instanceMethod yX5_many, .selects RX5 yX5_many yX5_many, .code yX5_many cX5_many 4 (some .int), .methodLink RX5 22 yX5_n, .static yX5_n, .code yX5_n cX5_n 1 (some .int)] ++ wsX50)
def wsX5_goCommand_r1 : List Cond := [Cond.fieldLink RX5 143 "BlockClerksModel" "word" "I", Cond.fieldLink RX5 146 "BlockClerksModel" "first" "I", Cond.fieldLink RX5 149 "BlockClerksModel" "second" "I", Cond.methodLink RX5 40 yX5_goClerk, Cond.instanceMethod yX5_goClerk, Cond.selects RX5 yX5_goClerk yX5_goClerk, Cond.initialized RX5, Cond.code yX5_goClerk cX5_goClerk 3 (some .int), Cond.fieldLink RX5 7 "BlockClerksModel" "s" "[I", Cond.methodLink RX5 34 yX5_c, Cond.static yX5_c, Cond.code yX5_c cX5_c 1 (some .int), Cond.methodLink RX5 71 yX5_goAsk, Cond.instanceMethod yX5_goAsk, Cond.selects RX5 yX5_goAsk yX5_goAsk, Cond.code yX5_goAsk cX5_goAsk 4 (some .int), Cond.methodLink RX5 60 yX5_giveOne, Cond.instanceMethod yX5_giveOne, Cond.selects RX5 yX5_giveOne yX5_giveOne, Cond.code yX5_giveOne cX5_giveOne 5 none, Cond.methodLink RX5 50 yX5_holds, Cond.instanceMethod yX5_holds, Cond.selects RX5 yX5_holds yX5_holds, Cond.code yX5_holds cX5_holds 2 (some .int)]
def wsX5_goCommand_r2 : List Cond := [Cond.methodLink RX5 53 yX5_getBlock, Cond.instanceMethod yX5_getBlock, Cond.selects RX5 yX5_getBlock yX5_getBlock, Cond.code yX5_getBlock cX5_getBlock 6 none, Cond.methodLink RX5 46 yX5_blockFrom, Cond.instanceMethod yX5_blockFrom, Cond.selects RX5 yX5_blockFrom yX5_blockFrom, Cond.code yX5_blockFrom cX5_blockFrom 2 (some .int), Cond.methodLink RX5 43 yX5_lowest, Cond.instanceMethod yX5_lowest, Cond.selects RX5 yX5_lowest yX5_lowest, Cond.code yX5_lowest cX5_lowest 3 (some .int), Cond.methodLink RX5 22 yX5_n, Cond.static yX5_n, Cond.code yX5_n cX5_n 1 (some .int), Cond.methodLink RX5 79 yX5_goForget, Cond.instanceMethod yX5_goForget, Cond.selects RX5 yX5_goForget yX5_goForget, Cond.code yX5_goForget cX5_goForget 4 (some .int), Cond.methodLink RX5 75 yX5_makeHole, Cond.instanceMethod yX5_makeHole, Cond.selects RX5 yX5_makeHole yX5_makeHole, Cond.code yX5_makeHole cX5_makeHole 3 none, Cond.methodLink RX5 82 yX5_goBack]
def wsX5_goCommand_r3 : List Cond := [Cond.instanceMethod yX5_goBack, Cond.selects RX5 yX5_goBack yX5_goBack, Cond.code yX5_goBack cX5_goBack 4 (some .int), Cond.methodLink RX5 88 yX5_goClose, Cond.instanceMethod yX5_goClose, Cond.selects RX5 yX5_goClose yX5_goClose, Cond.code yX5_goClose cX5_goClose 3 (some .int)]
def wsX5_goCommand : List Cond := .code yX5_goCommand cX5_goCommand 1 none :: ((wsX5_goCommand_r1 ++ (wsX5_goCommand_r2 ++ wsX5_goCommand_r3)) ++ wsX50)
def wsX5_run_r1 : List Cond := [Cond.fieldLink RX5 127 "BlockClerksModel" "at" "I", Cond.fieldLink RX5 158 "BlockClerksModel" "commands" "I", Cond.fieldLink RX5 115 "BlockClerksModel" "length" "I", Cond.methodLink RX5 161 yX5_isForm, Cond.instanceMethod yX5_isForm, Cond.selects RX5 yX5_isForm yX5_isForm, Cond.initialized RX5, Cond.code yX5_isForm cX5_isForm 1 (some .boolean), Cond.fieldLink RX5 143 "BlockClerksModel" "word" "I", Cond.fieldLink RX5 146 "BlockClerksModel" "first" "I", Cond.fieldLink RX5 149 "BlockClerksModel" "second" "I", Cond.methodLink RX5 140 yX5_wordAt, Cond.instanceMethod yX5_wordAt, Cond.selects RX5 yX5_wordAt yX5_wordAt, Cond.code yX5_wordAt cX5_wordAt 1 (some .int), Cond.methodLink RX5 136 yX5_sees, Cond.instanceMethod yX5_sees, Cond.selects RX5 yX5_sees yX5_sees, Cond.code yX5_sees cX5_sees 9 (some .boolean), Cond.methodLink RX5 130 yX5_has, Cond.instanceMethod yX5_has, Cond.selects RX5 yX5_has yX5_has, Cond.code yX5_has cX5_has 3 (some .boolean), Cond.fieldLink RX5 19 "BlockClerksModel" "text" "[I"]
def wsX5_run_r2 : List Cond := [Cond.methodLink RX5 133 yX5_one, Cond.static yX5_one, Cond.code yX5_one cX5_one 1 (some .int), Cond.methodLink RX5 152 yX5_kindAt, Cond.instanceMethod yX5_kindAt, Cond.selects RX5 yX5_kindAt yX5_kindAt, Cond.code yX5_kindAt cX5_kindAt 1 (some .int), Cond.methodLink RX5 155 yX5_number, Cond.instanceMethod yX5_number, Cond.selects RX5 yX5_number yX5_number, Cond.code yX5_number cX5_number 3 (some .int), Cond.methodLink RX5 30 yX5_in, Cond.static yX5_in, Cond.code yX5_in cX5_in 3 (some .boolean), Cond.methodLink RX5 165 yX5_isRange, Cond.instanceMethod yX5_isRange, Cond.selects RX5 yX5_isRange yX5_isRange, Cond.code yX5_isRange cX5_isRange 1 (some .boolean), Cond.methodLink RX5 63 yX5_isClerk, Cond.instanceMethod yX5_isClerk, Cond.selects RX5 yX5_isClerk yX5_isClerk, Cond.code yX5_isClerk cX5_isClerk 2 (some .boolean), Cond.fieldLink RX5 7 "BlockClerksModel" "s" "[I", Cond.methodLink RX5 85 yX5_isNumber]
def wsX5_run_r3 : List Cond := [Cond.static yX5_isNumber, Cond.code yX5_isNumber cX5_isNumber 1 (some .boolean), Cond.methodLink RX5 168 yX5_isPossible, Cond.instanceMethod yX5_isPossible, Cond.selects RX5 yX5_isPossible yX5_isPossible, Cond.code yX5_isPossible cX5_isPossible 1 (some .boolean), Cond.methodLink RX5 67 yX5_canAsk, Cond.instanceMethod yX5_canAsk, Cond.selects RX5 yX5_canAsk yX5_canAsk, Cond.code yX5_canAsk cX5_canAsk 3 (some .boolean), Cond.methodLink RX5 50 yX5_holds, Cond.instanceMethod yX5_holds, Cond.selects RX5 yX5_holds yX5_holds, Cond.code yX5_holds cX5_holds 2 (some .int), Cond.methodLink RX5 34 yX5_c, Cond.static yX5_c, Cond.code yX5_c cX5_c 1 (some .int), Cond.methodLink RX5 57 yX5_many, Cond.instanceMethod yX5_many, Cond.selects RX5 yX5_many yX5_many, Cond.code yX5_many cX5_many 4 (some .int), Cond.methodLink RX5 22 yX5_n, Cond.static yX5_n, Cond.code yX5_n cX5_n 1 (some .int)]
def wsX5_run_r4 : List Cond := [Cond.methodLink RX5 171 yX5_goCommand, Cond.instanceMethod yX5_goCommand, Cond.selects RX5 yX5_goCommand yX5_goCommand, Cond.code yX5_goCommand cX5_goCommand 1 none, Cond.methodLink RX5 40 yX5_goClerk, Cond.instanceMethod yX5_goClerk, Cond.selects RX5 yX5_goClerk yX5_goClerk, Cond.code yX5_goClerk cX5_goClerk 3 (some .int), Cond.methodLink RX5 71 yX5_goAsk, Cond.instanceMethod yX5_goAsk, Cond.selects RX5 yX5_goAsk yX5_goAsk, Cond.code yX5_goAsk cX5_goAsk 4 (some .int), Cond.methodLink RX5 60 yX5_giveOne, Cond.instanceMethod yX5_giveOne, Cond.selects RX5 yX5_giveOne yX5_giveOne, Cond.code yX5_giveOne cX5_giveOne 5 none, Cond.methodLink RX5 53 yX5_getBlock, Cond.instanceMethod yX5_getBlock, Cond.selects RX5 yX5_getBlock yX5_getBlock, Cond.code yX5_getBlock cX5_getBlock 6 none, Cond.methodLink RX5 46 yX5_blockFrom, Cond.instanceMethod yX5_blockFrom, Cond.selects RX5 yX5_blockFrom yX5_blockFrom, Cond.code yX5_blockFrom cX5_blockFrom 2 (some .int)]
def wsX5_run_r5 : List Cond := [Cond.methodLink RX5 43 yX5_lowest, Cond.instanceMethod yX5_lowest, Cond.selects RX5 yX5_lowest yX5_lowest, Cond.code yX5_lowest cX5_lowest 3 (some .int), Cond.methodLink RX5 79 yX5_goForget, Cond.instanceMethod yX5_goForget, Cond.selects RX5 yX5_goForget yX5_goForget, Cond.code yX5_goForget cX5_goForget 4 (some .int), Cond.methodLink RX5 75 yX5_makeHole, Cond.instanceMethod yX5_makeHole, Cond.selects RX5 yX5_makeHole yX5_makeHole, Cond.code yX5_makeHole cX5_makeHole 3 none, Cond.methodLink RX5 82 yX5_goBack, Cond.instanceMethod yX5_goBack, Cond.selects RX5 yX5_goBack yX5_goBack, Cond.code yX5_goBack cX5_goBack 4 (some .int), Cond.methodLink RX5 88 yX5_goClose, Cond.instanceMethod yX5_goClose, Cond.selects RX5 yX5_goClose yX5_goClose, Cond.code yX5_goClose cX5_goClose 3 (some .int)]
def wsX5_run : List Cond := .code yX5_run cX5_run 2 (some .int) :: ((wsX5_run_r1 ++ (wsX5_run_r2 ++ (wsX5_run_r3 ++ (wsX5_run_r4 ++ wsX5_run_r5)))) ++ wsX50)
def wsX5_fault_r1 : List Cond := [Cond.methodLink RX5 30 yX5_in, Cond.static yX5_in, Cond.initialized RX5, Cond.code yX5_in cX5_in 3 (some .boolean), Cond.methodLink RX5 118 yX5_layAside, Cond.instanceMethod yX5_layAside, Cond.selects RX5 yX5_layAside yX5_layAside, Cond.code yX5_layAside cX5_layAside 2 none, Cond.fieldLink RX5 16 "BlockClerksModel" "aside" "[I", Cond.fieldLink RX5 7 "BlockClerksModel" "s" "[I", Cond.methodLink RX5 174 yX5_run, Cond.instanceMethod yX5_run, Cond.selects RX5 yX5_run yX5_run, Cond.code yX5_run cX5_run 2 (some .int), Cond.fieldLink RX5 127 "BlockClerksModel" "at" "I", Cond.fieldLink RX5 158 "BlockClerksModel" "commands" "I", Cond.fieldLink RX5 115 "BlockClerksModel" "length" "I", Cond.methodLink RX5 161 yX5_isForm, Cond.instanceMethod yX5_isForm, Cond.selects RX5 yX5_isForm yX5_isForm, Cond.code yX5_isForm cX5_isForm 1 (some .boolean), Cond.fieldLink RX5 143 "BlockClerksModel" "word" "I", Cond.fieldLink RX5 146 "BlockClerksModel" "first" "I", Cond.fieldLink RX5 149 "BlockClerksModel" "second" "I"]
def wsX5_fault_r2 : List Cond := [Cond.methodLink RX5 140 yX5_wordAt, Cond.instanceMethod yX5_wordAt, Cond.selects RX5 yX5_wordAt yX5_wordAt, Cond.code yX5_wordAt cX5_wordAt 1 (some .int), Cond.methodLink RX5 136 yX5_sees, Cond.instanceMethod yX5_sees, Cond.selects RX5 yX5_sees yX5_sees, Cond.code yX5_sees cX5_sees 9 (some .boolean), Cond.methodLink RX5 130 yX5_has, Cond.instanceMethod yX5_has, Cond.selects RX5 yX5_has yX5_has, Cond.code yX5_has cX5_has 3 (some .boolean), Cond.fieldLink RX5 19 "BlockClerksModel" "text" "[I", Cond.methodLink RX5 133 yX5_one, Cond.static yX5_one, Cond.code yX5_one cX5_one 1 (some .int), Cond.methodLink RX5 152 yX5_kindAt, Cond.instanceMethod yX5_kindAt, Cond.selects RX5 yX5_kindAt yX5_kindAt, Cond.code yX5_kindAt cX5_kindAt 1 (some .int), Cond.methodLink RX5 155 yX5_number, Cond.instanceMethod yX5_number, Cond.selects RX5 yX5_number yX5_number, Cond.code yX5_number cX5_number 3 (some .int)]
def wsX5_fault_r3 : List Cond := [Cond.methodLink RX5 165 yX5_isRange, Cond.instanceMethod yX5_isRange, Cond.selects RX5 yX5_isRange yX5_isRange, Cond.code yX5_isRange cX5_isRange 1 (some .boolean), Cond.methodLink RX5 63 yX5_isClerk, Cond.instanceMethod yX5_isClerk, Cond.selects RX5 yX5_isClerk yX5_isClerk, Cond.code yX5_isClerk cX5_isClerk 2 (some .boolean), Cond.methodLink RX5 85 yX5_isNumber, Cond.static yX5_isNumber, Cond.code yX5_isNumber cX5_isNumber 1 (some .boolean), Cond.methodLink RX5 168 yX5_isPossible, Cond.instanceMethod yX5_isPossible, Cond.selects RX5 yX5_isPossible yX5_isPossible, Cond.code yX5_isPossible cX5_isPossible 1 (some .boolean), Cond.methodLink RX5 67 yX5_canAsk, Cond.instanceMethod yX5_canAsk, Cond.selects RX5 yX5_canAsk yX5_canAsk, Cond.code yX5_canAsk cX5_canAsk 3 (some .boolean), Cond.methodLink RX5 50 yX5_holds, Cond.instanceMethod yX5_holds, Cond.selects RX5 yX5_holds yX5_holds, Cond.code yX5_holds cX5_holds 2 (some .int), Cond.methodLink RX5 34 yX5_c]
def wsX5_fault_r4 : List Cond := [Cond.static yX5_c, Cond.code yX5_c cX5_c 1 (some .int), Cond.methodLink RX5 57 yX5_many, Cond.instanceMethod yX5_many, Cond.selects RX5 yX5_many yX5_many, Cond.code yX5_many cX5_many 4 (some .int), Cond.methodLink RX5 22 yX5_n, Cond.static yX5_n, Cond.code yX5_n cX5_n 1 (some .int), Cond.methodLink RX5 171 yX5_goCommand, Cond.instanceMethod yX5_goCommand, Cond.selects RX5 yX5_goCommand yX5_goCommand, Cond.code yX5_goCommand cX5_goCommand 1 none, Cond.methodLink RX5 40 yX5_goClerk, Cond.instanceMethod yX5_goClerk, Cond.selects RX5 yX5_goClerk yX5_goClerk, Cond.code yX5_goClerk cX5_goClerk 3 (some .int), Cond.methodLink RX5 71 yX5_goAsk, Cond.instanceMethod yX5_goAsk, Cond.selects RX5 yX5_goAsk yX5_goAsk, Cond.code yX5_goAsk cX5_goAsk 4 (some .int), Cond.methodLink RX5 60 yX5_giveOne, Cond.instanceMethod yX5_giveOne, Cond.selects RX5 yX5_giveOne yX5_giveOne]
def wsX5_fault_r5 : List Cond := [Cond.code yX5_giveOne cX5_giveOne 5 none, Cond.methodLink RX5 53 yX5_getBlock, Cond.instanceMethod yX5_getBlock, Cond.selects RX5 yX5_getBlock yX5_getBlock, Cond.code yX5_getBlock cX5_getBlock 6 none, Cond.methodLink RX5 46 yX5_blockFrom, Cond.instanceMethod yX5_blockFrom, Cond.selects RX5 yX5_blockFrom yX5_blockFrom, Cond.code yX5_blockFrom cX5_blockFrom 2 (some .int), Cond.methodLink RX5 43 yX5_lowest, Cond.instanceMethod yX5_lowest, Cond.selects RX5 yX5_lowest yX5_lowest, Cond.code yX5_lowest cX5_lowest 3 (some .int), Cond.methodLink RX5 79 yX5_goForget, Cond.instanceMethod yX5_goForget, Cond.selects RX5 yX5_goForget yX5_goForget, Cond.code yX5_goForget cX5_goForget 4 (some .int), Cond.methodLink RX5 75 yX5_makeHole, Cond.instanceMethod yX5_makeHole, Cond.selects RX5 yX5_makeHole yX5_makeHole, Cond.code yX5_makeHole cX5_makeHole 3 none, Cond.methodLink RX5 82 yX5_goBack, Cond.instanceMethod yX5_goBack, Cond.selects RX5 yX5_goBack yX5_goBack]
def wsX5_fault_r6 : List Cond := [Cond.code yX5_goBack cX5_goBack 4 (some .int), Cond.methodLink RX5 88 yX5_goClose, Cond.instanceMethod yX5_goClose, Cond.selects RX5 yX5_goClose yX5_goClose, Cond.code yX5_goClose cX5_goClose 3 (some .int), Cond.methodLink RX5 121 yX5_layBack, Cond.instanceMethod yX5_layBack, Cond.selects RX5 yX5_layBack yX5_layBack, Cond.code yX5_layBack cX5_layBack 2 none]
def wsX5_fault : List Cond := .code yX5_fault cX5_fault 3 (some .int) :: ((wsX5_fault_r1 ++ (wsX5_fault_r2 ++ (wsX5_fault_r3 ++ (wsX5_fault_r4 ++ (wsX5_fault_r5 ++ wsX5_fault_r6))))) ++ wsX50)
def wsX5_play_r1 : List Cond := [Cond.fieldLink RX5 158 "BlockClerksModel" "commands" "I", Cond.methodLink RX5 118 yX5_layAside, Cond.instanceMethod yX5_layAside, Cond.selects RX5 yX5_layAside yX5_layAside, Cond.initialized RX5, Cond.code yX5_layAside cX5_layAside 2 none, Cond.fieldLink RX5 16 "BlockClerksModel" "aside" "[I", Cond.fieldLink RX5 7 "BlockClerksModel" "s" "[I", Cond.methodLink RX5 174 yX5_run, Cond.instanceMethod yX5_run, Cond.selects RX5 yX5_run yX5_run, Cond.code yX5_run cX5_run 2 (some .int), Cond.fieldLink RX5 127 "BlockClerksModel" "at" "I", Cond.fieldLink RX5 115 "BlockClerksModel" "length" "I", Cond.methodLink RX5 161 yX5_isForm, Cond.instanceMethod yX5_isForm, Cond.selects RX5 yX5_isForm yX5_isForm, Cond.code yX5_isForm cX5_isForm 1 (some .boolean), Cond.fieldLink RX5 143 "BlockClerksModel" "word" "I", Cond.fieldLink RX5 146 "BlockClerksModel" "first" "I", Cond.fieldLink RX5 149 "BlockClerksModel" "second" "I", Cond.methodLink RX5 140 yX5_wordAt, Cond.instanceMethod yX5_wordAt, Cond.selects RX5 yX5_wordAt yX5_wordAt]
def wsX5_play_r2 : List Cond := [Cond.code yX5_wordAt cX5_wordAt 1 (some .int), Cond.methodLink RX5 136 yX5_sees, Cond.instanceMethod yX5_sees, Cond.selects RX5 yX5_sees yX5_sees, Cond.code yX5_sees cX5_sees 9 (some .boolean), Cond.methodLink RX5 130 yX5_has, Cond.instanceMethod yX5_has, Cond.selects RX5 yX5_has yX5_has, Cond.code yX5_has cX5_has 3 (some .boolean), Cond.fieldLink RX5 19 "BlockClerksModel" "text" "[I", Cond.methodLink RX5 133 yX5_one, Cond.static yX5_one, Cond.code yX5_one cX5_one 1 (some .int), Cond.methodLink RX5 152 yX5_kindAt, Cond.instanceMethod yX5_kindAt, Cond.selects RX5 yX5_kindAt yX5_kindAt, Cond.code yX5_kindAt cX5_kindAt 1 (some .int), Cond.methodLink RX5 155 yX5_number, Cond.instanceMethod yX5_number, Cond.selects RX5 yX5_number yX5_number, Cond.code yX5_number cX5_number 3 (some .int), Cond.methodLink RX5 30 yX5_in, Cond.static yX5_in, Cond.code yX5_in cX5_in 3 (some .boolean)]
def wsX5_play_r3 : List Cond := [Cond.methodLink RX5 165 yX5_isRange, Cond.instanceMethod yX5_isRange, Cond.selects RX5 yX5_isRange yX5_isRange, Cond.code yX5_isRange cX5_isRange 1 (some .boolean), Cond.methodLink RX5 63 yX5_isClerk, Cond.instanceMethod yX5_isClerk, Cond.selects RX5 yX5_isClerk yX5_isClerk, Cond.code yX5_isClerk cX5_isClerk 2 (some .boolean), Cond.methodLink RX5 85 yX5_isNumber, Cond.static yX5_isNumber, Cond.code yX5_isNumber cX5_isNumber 1 (some .boolean), Cond.methodLink RX5 168 yX5_isPossible, Cond.instanceMethod yX5_isPossible, Cond.selects RX5 yX5_isPossible yX5_isPossible, Cond.code yX5_isPossible cX5_isPossible 1 (some .boolean), Cond.methodLink RX5 67 yX5_canAsk, Cond.instanceMethod yX5_canAsk, Cond.selects RX5 yX5_canAsk yX5_canAsk, Cond.code yX5_canAsk cX5_canAsk 3 (some .boolean), Cond.methodLink RX5 50 yX5_holds, Cond.instanceMethod yX5_holds, Cond.selects RX5 yX5_holds yX5_holds, Cond.code yX5_holds cX5_holds 2 (some .int), Cond.methodLink RX5 34 yX5_c]
def wsX5_play_r4 : List Cond := [Cond.static yX5_c, Cond.code yX5_c cX5_c 1 (some .int), Cond.methodLink RX5 57 yX5_many, Cond.instanceMethod yX5_many, Cond.selects RX5 yX5_many yX5_many, Cond.code yX5_many cX5_many 4 (some .int), Cond.methodLink RX5 22 yX5_n, Cond.static yX5_n, Cond.code yX5_n cX5_n 1 (some .int), Cond.methodLink RX5 171 yX5_goCommand, Cond.instanceMethod yX5_goCommand, Cond.selects RX5 yX5_goCommand yX5_goCommand, Cond.code yX5_goCommand cX5_goCommand 1 none, Cond.methodLink RX5 40 yX5_goClerk, Cond.instanceMethod yX5_goClerk, Cond.selects RX5 yX5_goClerk yX5_goClerk, Cond.code yX5_goClerk cX5_goClerk 3 (some .int), Cond.methodLink RX5 71 yX5_goAsk, Cond.instanceMethod yX5_goAsk, Cond.selects RX5 yX5_goAsk yX5_goAsk, Cond.code yX5_goAsk cX5_goAsk 4 (some .int), Cond.methodLink RX5 60 yX5_giveOne, Cond.instanceMethod yX5_giveOne, Cond.selects RX5 yX5_giveOne yX5_giveOne]
def wsX5_play_r5 : List Cond := [Cond.code yX5_giveOne cX5_giveOne 5 none, Cond.methodLink RX5 53 yX5_getBlock, Cond.instanceMethod yX5_getBlock, Cond.selects RX5 yX5_getBlock yX5_getBlock, Cond.code yX5_getBlock cX5_getBlock 6 none, Cond.methodLink RX5 46 yX5_blockFrom, Cond.instanceMethod yX5_blockFrom, Cond.selects RX5 yX5_blockFrom yX5_blockFrom, Cond.code yX5_blockFrom cX5_blockFrom 2 (some .int), Cond.methodLink RX5 43 yX5_lowest, Cond.instanceMethod yX5_lowest, Cond.selects RX5 yX5_lowest yX5_lowest, Cond.code yX5_lowest cX5_lowest 3 (some .int), Cond.methodLink RX5 79 yX5_goForget, Cond.instanceMethod yX5_goForget, Cond.selects RX5 yX5_goForget yX5_goForget, Cond.code yX5_goForget cX5_goForget 4 (some .int), Cond.methodLink RX5 75 yX5_makeHole, Cond.instanceMethod yX5_makeHole, Cond.selects RX5 yX5_makeHole yX5_makeHole, Cond.code yX5_makeHole cX5_makeHole 3 none, Cond.methodLink RX5 82 yX5_goBack, Cond.instanceMethod yX5_goBack, Cond.selects RX5 yX5_goBack yX5_goBack]
def wsX5_play_r6 : List Cond := [Cond.code yX5_goBack cX5_goBack 4 (some .int), Cond.methodLink RX5 88 yX5_goClose, Cond.instanceMethod yX5_goClose, Cond.selects RX5 yX5_goClose yX5_goClose, Cond.code yX5_goClose cX5_goClose 3 (some .int), Cond.methodLink RX5 121 yX5_layBack, Cond.instanceMethod yX5_layBack, Cond.selects RX5 yX5_layBack yX5_layBack, Cond.code yX5_layBack cX5_layBack 2 none, Cond.methodLink RX5 37 yX5_record, Cond.instanceMethod yX5_record, Cond.selects RX5 yX5_record yX5_record, Cond.code yX5_record cX5_record 2 none, Cond.fieldLink RX5 26 "BlockClerksModel" "undoMany" "I", Cond.fieldLink RX5 13 "BlockClerksModel" "before" "[I"]
def wsX5_play : List Cond := .code yX5_play cX5_play 2 (some .int) :: ((wsX5_play_r1 ++ (wsX5_play_r2 ++ (wsX5_play_r3 ++ (wsX5_play_r4 ++ (wsX5_play_r5 ++ wsX5_play_r6))))) ++ wsX50)
def wsJ9_max_7cf53 : List Cond := .code yJ9_max_7cf53 cJ9_max_7cf53 2 (some .int) :: ([])
def wsJ9_min_7cf53 : List Cond := .code yJ9_min_7cf53 cJ9_min_7cf53 2 (some .int) :: ([])
abbrev vwCl : List vw_C := [(RX0, TX0, 7), (RX1, TX1, 8), (RX2, TX2, 5), (RX3, TX3, 6), (RX4, TX4, 7), (RX5, TX5, 11)]
end
section
/-! My base: steps of answers that may be none, the environment, contracts in one shape, calls that leave the world's order as it is. -/
/-- a named value -/
def nb {α β : Type} (v : α) (k : α → β) : β := k v
theorem nb_o {α β : Type} {v : α} {k : α → β} {R : β} (h : nb v k = R) : ∃ y, y = v ∧ k y = R := ⟨v, rfl, h⟩
theorem op_t {α : Type} {c : Prop} [Decidable c] {a b R : α} (h : c) (hf : (if c then a else b) = R) : a = R := by rwa [if_pos h] at hf
theorem op_f {α : Type} {c : Prop} [Decidable c] {a b R : α} (h : ¬ c) (hf : (if c then a else b) = R) : b = R := by rwa [if_neg h] at hf
theorem op_b {α β : Type} {a : Option α} {k : α → Option β} {R : β} (hf : a.bind k = some R) : ∃ y, a = some y ∧ k y = some R := by
  cases a with
  | none => cases hf
  | some y => exact ⟨y, rfl, hf⟩
/-- an index that must be in its row -/
def ix {α : Type} (i : Int32) (n : Nat) (k : Option α) : Option α := if i < 0 ∨ n ≤ i.toNatClampNeg then none else k
theorem op_x {α : Type} {i : Int32} {n : Nat} {k : Option α} {R : α} (hf : ix i n k = some R) : vp_in i n ∧ k = some R := by
  unfold ix at hf
  by_cases h : i < 0 ∨ n ≤ i.toNatClampNeg
  · rw [if_pos h] at hf; cases hf
  · rw [if_neg h] at hf; exact ⟨h, hf⟩
theorem op_k {α : Type} {a : α} {R : α} (hf : some a = some R) : a = R := Option.some.inj hf
theorem in_lt {i : Int32} {n : Nat} (h : vp_in i n) : i.toNatClampNeg < n := by
  rcases Nat.lt_or_ge i.toNatClampNeg n with q | q
  · exact q
  · exact absurd (Or.inr q) h
/-- cells put at places -/
def fr_set : va_W → List Nat → va_W → va_W
  | ws, i :: is, q :: w1 => fr_set (ws.set i q) is w1
  | ws, _, _ => ws
theorem fr_get : ∀ (is : List Nat) (w1 ws : va_W), is.length = w1.length → ∀ (j : Nat) (q : Nat × va_E), (fr_set ws is w1)[j]? = some q → (∃ k : Nat, is[k]? = some j ∧ w1[k]? = some q) ∨ (j ∉ is ∧ ws[j]? = some q) := by
  intro is
  induction is with
  | nil =>
    intro w1 ws _ j q h
    refine Or.inr ⟨List.not_mem_nil, ?_⟩
    cases w1 <;> exact h
  | cons i is ih =>
    intro w1 ws hl j q h
    cases w1 with
    | nil => cases hl
    | cons p w1 =>
      rcases ih w1 (ws.set i p) (by simpa using hl) j q h with ⟨k, h1, h2⟩ | ⟨h1, h2⟩
      · exact Or.inl ⟨k + 1, by simpa using h1, by simpa using h2⟩
      · rw [List.getElem?_set] at h2
        by_cases e : i = j
        · rw [if_pos e] at h2
          split at h2
          · exact Or.inl ⟨0, by simp [e], by simpa using h2⟩
          · cases h2
        · rw [if_neg e] at h2
          exact Or.inr ⟨by simp only [List.mem_cons, not_or]; exact ⟨fun z => e z.symm, h1⟩, h2⟩
theorem fr_map : ∀ (is : List Nat) (w1 ws : va_W), is.map (fun i => (ws[i]?).map Prod.fst) = w1.map (fun q => some q.1) → va_nd is = true → (fr_set ws is w1).map Prod.fst = ws.map Prod.fst := by
  intro is
  induction is with
  | nil =>
    intro w1 ws _ _
    cases w1 <;> rfl
  | cons i is ih =>
    intro w1 ws h hn
    cases w1 with
    | nil => rfl
    | cons p w1 =>
      simp only [List.map_cons, List.cons.injEq] at h
      simp only [va_nd, Bool.and_eq_true, decide_eq_true_eq] at hn
      have e : (ws.set i p).map Prod.fst = ws.map Prod.fst := by
        apply List.ext_getElem?
        intro j
        rw [List.getElem?_map, List.getElem?_map, List.getElem?_set]
        by_cases e : i = j
        · subst e
          rw [if_pos rfl, h.1]
          cases hw : ws[i]? with
          | none => rw [hw] at h; cases h.1
          | some q =>
            have hi := (List.getElem?_eq_some_iff.mp hw).1
            rw [if_pos hi]; rfl
        · rw [if_neg e]
      show (fr_set (ws.set i p) is w1).map Prod.fst = _
      rw [ih w1 (ws.set i p) ?_ hn.2, e]
      rw [← h.2]
      apply List.map_congr_left
      intro j hj
      have hne : ¬ i = j := by
        intro z
        subst z
        exact hn.1 hj
      rw [List.getElem?_set, if_neg hne]
theorem va_D.same {A : Nat → Prop} {ws ws' : va_W} (h : va_D A ws) (e : ws'.map Prod.fst = ws.map Prod.fst) : va_D A ws' := by
  have key : ∀ (k : Nat) (q : Nat × va_E), ws'[k]? = some q → ∃ p, ws[k]? = some p ∧ p.1 = q.1 := by
    intro k q hq
    have h1 : (ws'.map Prod.fst)[k]? = some q.1 := by rw [List.getElem?_map, hq]; rfl
    rw [e, List.getElem?_map] at h1
    cases hk : ws[k]? with
    | none => rw [hk] at h1; cases h1
    | some p => rw [hk] at h1; exact ⟨p, rfl, Option.some.inj h1⟩
  refine ⟨fun i j p q hi hj hpq => ?_, fun k q hk => ?_⟩
  · obtain ⟨p', h1, h2⟩ := key i p hi
    obtain ⟨q', h3, h4⟩ := key j q hj
    exact h.1 i j p' q' h1 h3 (by rw [h2, h4]; exact hpq)
  · obtain ⟨p, h1, h2⟩ := key k q hk
    rw [← h2]; exact h.2 k p h1
/-- behind a call: the callee's cells at their places again -/
theorem fr_join {A0 : Nat → Prop} {D : va_G} {cl : List vw_C} {ws wc w1 : va_W} {H H1 : Heap} (hP : va_P D cl ws H) (hD : va_D A0 ws) (isC : List Nat) (hC : isC.map (fun i => ws[i]?) = wc.map some) (hn : va_nd isC = true) (he : w1.map Prod.fst = wc.map Prod.fst)
    (hk : ∀ q : Nat, q < H.size → ¬ va_A wc H.size q → H1[q]? = H[q]?) (hP1 : va_P D cl w1 H1) : va_P D cl (fr_set ws isC w1) H1 ∧ va_D A0 (fr_set ws isC w1) := by
  have hlen : isC.length = wc.length := by simpa using congrArg List.length hC
  have hl1 : w1.length = wc.length := by simpa using congrArg List.length he
  have hC' : isC.map (fun i => (ws[i]?).map Prod.fst) = w1.map (fun q => some q.1) := by
    have h1 := congrArg (List.map (Option.map Prod.fst)) hC
    rw [List.map_map, List.map_map] at h1
    have h2 : w1.map (fun q => some q.1) = wc.map (fun q => some q.1) := by
      have h3 := congrArg (List.map some) he
      rw [List.map_map, List.map_map] at h3
      exact h3
    rw [h2]
    exact h1
  refine ⟨fun j q hq => ?_, hD.same (fr_map isC w1 ws hC' hn)⟩
  rcases fr_get isC w1 ws (by rw [hlen, hl1]) j q hq with ⟨k, h1, h2⟩ | ⟨h1, h2⟩
  · exact hP1 k q h2
  · have hlt := (hP j q h2).lt
    refine (hP j q h2).kept (hk q.1 hlt ?_)
    rintro (⟨k, e, h3⟩ | h3)
    · have h4 : (isC.map (fun i => ws[i]?))[k]? = some (some (q.1, e)) := by rw [hC, List.getElem?_map, h3]; rfl
      rw [List.getElem?_map] at h4
      cases hi : isC[k]? with
      | none => rw [hi] at h4; cases h4
      | some i =>
        rw [hi] at h4
        have h5 := Option.some.inj h4
        have h6 := hD.1 i j (q.1, e) q h5 h2 rfl
        subst h6
        exact h1 (List.mem_of_getElem? hi)
    · omega
/-- what holds of the machine's own cells and tables all the time -/
abbrev EV : Type := (Nat → Prop) → State → Heap → Prop
def EOK (E : EV) : Prop := (∀ (A : Nat → Prop) (u U : State) (H : Heap), U.vm = u.vm → E A u H → E A U H) ∧ (∀ (A : Nat → Prop) (s U : State) (H : Heap), s.WarmedH U.vm → E A s H → E A U H) ∧ (∀ (A : Nat → Prop) (U : State) (H H1 : Heap), (∀ a : Nat, a < H.size → ¬ A a → H1[a]? = H[a]?) → E A U H → E A U H1) ∧ ∀ (A B : Nat → Prop) (U : State) (H : Heap), (∀ q, B q → A q) → E A U H → E B U H
def E0 : EV := fun _ _ _ => True
theorem E0_ok : EOK E0 := ⟨fun _ _ _ _ _ _ => trivial, fun _ _ _ _ _ _ => trivial, fun _ _ _ _ _ _ => trivial, fun _ _ _ _ _ _ => trivial⟩
/-- a method's room by its depth -/
def rm (d : Nat) : Room := { frames := d, cells := 0, slots := 0, locals := 30 * d }
/-- a contract: from the world wc, with the answer r and the world w1 u -/
def KI (l : Launch) (D : va_G) (tys : List (ClassId × FieldType)) (E : EV) (y : MethodName) (wy : List Cond) (d : Nat) (av : List Value) (wc : va_W) {S : Type} (post : Int32 → S → Prop) (w1 : S → va_W) : Prop :=
  ∀ sz : Nat, Met l y wy (rm d) (va_Pc av (fun U => U.heap.size = sz ∧ va_P D vwCl wc U.heap ∧ va_K D vwCl tys U ∧ va_D (fun _ => True) wc ∧ E (va_A wc sz) U U.heap)) (va_Qi post (fun u t => va_P D vwCl (w1 u) t.heap) (va_A wc sz)) 0 0 (va_A wc sz)
def KV (l : Launch) (D : va_G) (tys : List (ClassId × FieldType)) (E : EV) (y : MethodName) (wy : List Cond) (d : Nat) (av : List Value) (wc : va_W) {S : Type} (post : S → Prop) (w1 : S → va_W) : Prop :=
  ∀ sz : Nat, Met l y wy (rm d) (va_Pc av (fun U => U.heap.size = sz ∧ va_P D vwCl wc U.heap ∧ va_K D vwCl tys U ∧ va_D (fun _ => True) wc ∧ E (va_A wc sz) U U.heap)) (va_Qv post (fun u t => va_P D vwCl (w1 u) t.heap) (va_A wc sz)) 0 0 (va_A wc sz)
section CK
variable {p : Program} {l : Launch} {e : Env} {R : Room} {s : State} {m : MethodId} {args : Array Value} {below : List Frame} {meth : Method} {c : Code} {H : Heap} {locs : List Loc} {cells slots : Nat} {Q : State → Prop}
variable {pc : Nat} {ls : Array Slot} {rest st As : List Value} {A0 : Nat → Prop} {D : va_G} {tys : List (ClassId × FieldType)} {E : EV} {ws wc : va_W}
variable {cc bytes : ByteArray} {nL maxL index n d : Nat} {ret : Option FieldType} {Ts wy : List Cond} {own C : String} {y : MethodName} {b : Nat}
theorem ck_pre {av : List Value} (hE : EOK E) (hK : va_K D vwCl tys s) (hP : va_P D vwCl ws H) (hD : va_D A0 ws) (hS : va_S A0 s.heap H locs) (hA : ∀ q : Nat, s.heap.size ≤ q → A0 q) (hEs : E A0 s s.heap) (isC : List Nat) (hC : isC.map (fun i => ws[i]?) = wc.map some) (hn : va_nd isC = true) :
    FrameBlind (va_Pc av (fun U => U.heap.size = H.size ∧ va_P D vwCl wc U.heap ∧ va_K D vwCl tys U ∧ va_D (fun _ => True) wc ∧ E (va_A wc H.size) U U.heap)) ∧ (∀ U : State, U.heap = H → s.WarmedH U.vm → va_Pc av (fun U => U.heap.size = H.size ∧ va_P D vwCl wc U.heap ∧ va_K D vwCl tys U ∧ va_D (fun _ => True) wc ∧ E (va_A wc H.size) U U.heap) av.toArray U) ∧ va_P D vwCl wc H := by
  have hFc := va_free hD hS hA isC hC
  have hPc : va_P D vwCl wc H := by
    intro k q hk
    have h1 : (isC.map (fun i => ws[i]?))[k]? = some (some q) := by rw [hC, List.getElem?_map, hk]; rfl
    rw [List.getElem?_map] at h1
    cases hi : isC[k]? with
    | none => rw [hi] at h1; cases h1
    | some i => rw [hi] at h1; exact hP i q (Option.some.inj h1)
  have hDc := hD.sub isC hn hC
  refine ⟨fun a U g mk q => ?_, fun U hU hW => ⟨rfl, by rw [hU], by rw [hU]; exact hPc, va_K.moved hW.alike hK, hDc.weaken (fun _ _ _ _ => trivial), ?_⟩, hPc⟩
  · obtain ⟨q0, q1, qP, qK, qD, qE⟩ := q
    exact ⟨q0, q1, qP, va_K.moved (u := U) (U := U.calling g mk a) (Vm.Alike.refl U.vm) qK, qD, hE.1 _ U _ _ rfl qE⟩
  · rw [hU]
    exact hE.2.2.2 A0 _ U H hFc (hE.2.2.1 A0 U s.heap H hS.2.1 (hE.2.1 A0 s U s.heap hW hEs))
/-- a call of a method of an object, with an int as answer -/
theorem ck_VI {S : Type} {post : Int32 → S → Prop} {w1 : S → va_W} (X : CallFix p m c cc nL s args Ts own) (hE : EOK E) (hM : KI l D tys E y wy d (.ref b :: As) wc post w1) (cw : CallW R s args own C index y bytes maxL ret wy (rm d) 0 0 n)
    (hK : va_K D vwCl tys s) (hP : va_P D vwCl ws H) (hD : va_D A0 ws) (hS : va_S A0 s.heap H locs) (hA : ∀ q : Nat, s.heap.size ≤ q → A0 q) (hEs : E A0 s s.heap) (isC : List Nat) (hC : isC.map (fun i => ws[i]?) = wc.map some) (hn : va_nd isC = true)
    {ci : Nat} {fs : List Value} {qc : vw_C} (hrc : vwCl[ci]? = some qc) (hrC : qc.1 = C) (hr0 : wc[0]? = some (b, .inr (ci, fs))) (hsh : ∀ u, (w1 u).map Prod.fst = wc.map Prod.fst)
    (hAn : As.length = n) (hsize : ls.size = nL) (hst : st = As.reverse ++ .ref b :: rest) (hW : (rest.map fun v => v.category).sum ≤ 8) (hdg : decode cc pc = .ok (.invokevirtual index, 3)) (hf : cells ≤ R.cells ∧ slots ≤ R.slots)
    (kk : ∀ (r : Int32) (u : S) (H1 : Heap) (locs1 : List Loc), post r u → va_P D vwCl (fr_set ws isC (w1 u)) H1 → va_D A0 (fr_set ws isC (w1 u)) → va_S A0 s.heap H1 locs1 → W p l e R s m args below meth c H1 locs1 cells slots Q (F0 m (pc + 3) ls (.int r :: rest))) : W p l e R s m args below meth c H locs cells slots Q (F0 m pc ls st) := by
  have hFc := va_free hD hS hA isC hC
  obtain ⟨g1, g2, hPc⟩ := ck_pre (av := .ref b :: As) hE hK hP hD hS hA hEs isC hC hn
  refine va_calli (va_runV (As := As) (rest := rest) X (hM H.size) cw ⟨g1, hrC ▸ va_recv hK hPc hrc hr0, g2⟩ rfl hAn hsize hst (lv_room hW) hdg hf) hS (fun q _ h => hFc q h) hFc (fun r u t H1 locs1 ht hvm hw hB hz1 hk1 hS1 => ?_)
  obtain ⟨hP', hD'⟩ := fr_join hP hD isC hC hn (hsh u) hk1 (ht ▸ hB)
  exact kk r u H1 locs1 hw hP' hD' hS1
theorem ck_VV {S : Type} {post : S → Prop} {w1 : S → va_W} (X : CallFix p m c cc nL s args Ts own) (hE : EOK E) (hM : KV l D tys E y wy d (.ref b :: As) wc post w1) (cw : CallW R s args own C index y bytes maxL ret wy (rm d) 0 0 n)
    (hK : va_K D vwCl tys s) (hP : va_P D vwCl ws H) (hD : va_D A0 ws) (hS : va_S A0 s.heap H locs) (hA : ∀ q : Nat, s.heap.size ≤ q → A0 q) (hEs : E A0 s s.heap) (isC : List Nat) (hC : isC.map (fun i => ws[i]?) = wc.map some) (hn : va_nd isC = true)
    {ci : Nat} {fs : List Value} {qc : vw_C} (hrc : vwCl[ci]? = some qc) (hrC : qc.1 = C) (hr0 : wc[0]? = some (b, .inr (ci, fs))) (hsh : ∀ u, (w1 u).map Prod.fst = wc.map Prod.fst)
    (hAn : As.length = n) (hsize : ls.size = nL) (hst : st = As.reverse ++ .ref b :: rest) (hW : (rest.map fun v => v.category).sum ≤ 8) (hdg : decode cc pc = .ok (.invokevirtual index, 3)) (hf : cells ≤ R.cells ∧ slots ≤ R.slots)
    (kk : ∀ (u : S) (H1 : Heap) (locs1 : List Loc), post u → va_P D vwCl (fr_set ws isC (w1 u)) H1 → va_D A0 (fr_set ws isC (w1 u)) → va_S A0 s.heap H1 locs1 → W p l e R s m args below meth c H1 locs1 cells slots Q (F0 m (pc + 3) ls rest)) : W p l e R s m args below meth c H locs cells slots Q (F0 m pc ls st) := by
  have hFc := va_free hD hS hA isC hC
  obtain ⟨g1, g2, hPc⟩ := ck_pre (av := .ref b :: As) hE hK hP hD hS hA hEs isC hC hn
  refine va_callv (va_runV (As := As) (rest := rest) X (hM H.size) cw ⟨g1, hrC ▸ va_recv hK hPc hrc hr0, g2⟩ rfl hAn hsize hst (lv_room hW) hdg hf) hS (fun q _ h => hFc q h) hFc (fun u t H1 locs1 ht hvm hw hB hz1 hk1 hS1 => ?_)
  obtain ⟨hP', hD'⟩ := fr_join hP hD isC hC hn (hsh u) hk1 (ht ▸ hB)
  exact kk u H1 locs1 hw hP' hD' hS1
/-- a call of a static method with an int as answer: no cells -/
theorem ck_SI {post : Int32 → Unit → Prop} (X : CallFix p m c cc nL s args Ts own) (hE : EOK E) (hM : KI l D tys E y wy d As [] post (fun _ => [])) (cw : CallB R s args own index y bytes maxL ret wy (rm d) 0 0 n ∧ (Cond.static y).before args s = true)
    (hK : va_K D vwCl tys s) (hP : va_P D vwCl ws H) (hD : va_D A0 ws) (hS : va_S A0 s.heap H locs) (hA : ∀ q : Nat, s.heap.size ≤ q → A0 q) (hEs : E A0 s s.heap)
    (hAn : As.length = n) (hsize : ls.size = nL) (hst : st = As.reverse ++ rest) (hW : (rest.map fun v => v.category).sum ≤ 8) (hdg : decode cc pc = .ok (.invokestatic index, 3)) (hf : cells ≤ R.cells ∧ slots ≤ R.slots)
    (kk : ∀ (r : Int32) (H1 : Heap) (locs1 : List Loc), post r () → va_P D vwCl ws H1 → va_S A0 s.heap H1 locs1 → W p l e R s m args below meth c H1 locs1 cells slots Q (F0 m (pc + 3) ls (.int r :: rest))) : W p l e R s m args below meth c H locs cells slots Q (F0 m pc ls st) := by
  have hFc := va_free (wc := []) hD hS hA [] rfl
  obtain ⟨g1, g2, -⟩ := ck_pre (av := As) (wc := []) hE hK hP hD hS hA hEs [] rfl rfl
  refine va_calli (va_runS (As := As) (rest := rest) X (hM H.size) cw ⟨g1, g2⟩ rfl hAn hsize hst (lv_room hW) hdg hf) hS (fun q _ h => hFc q h) hFc (fun r u t H1 locs1 ht hvm hw hB hz1 hk1 hS1 => ?_)
  obtain ⟨hP', hD'⟩ := fr_join (wc := []) (w1 := []) hP hD [] rfl rfl rfl hk1 (ht ▸ hB)
  exact kk r H1 locs1 hw hP' hS1
/-- the same, of a private one of a nest mate -/
theorem ck_NI {host : String} {post : Int32 → Unit → Prop} (X : CallFix p m c cc nL s args Ts own) (hE : EOK E) (hM : KI l D tys E y wy d As [] post (fun _ => [])) (cw : va_CN R s args own index y host bytes maxL ret wy (rm d) 0 0 n ∧ (Cond.static y).before args s = true ∧ True)
    (hK : va_K D vwCl tys s) (hP : va_P D vwCl ws H) (hD : va_D A0 ws) (hS : va_S A0 s.heap H locs) (hA : ∀ q : Nat, s.heap.size ≤ q → A0 q) (hEs : E A0 s s.heap)
    (hAn : As.length = n) (hsize : ls.size = nL) (hst : st = As.reverse ++ rest) (hW : (rest.map fun v => v.category).sum ≤ 8) (hdg : decode cc pc = .ok (.invokestatic index, 3)) (hf : cells ≤ R.cells ∧ slots ≤ R.slots)
    (kk : ∀ (r : Int32) (H1 : Heap) (locs1 : List Loc), post r () → va_P D vwCl ws H1 → va_S A0 s.heap H1 locs1 → W p l e R s m args below meth c H1 locs1 cells slots Q (F0 m (pc + 3) ls (.int r :: rest))) : W p l e R s m args below meth c H locs cells slots Q (F0 m pc ls st) := by
  have hFc := va_free (wc := []) hD hS hA [] rfl
  obtain ⟨g1, g2, -⟩ := ck_pre (av := As) (wc := []) hE hK hP hD hS hA hEs [] rfl rfl
  refine va_calli (va_runSN (As := As) (rest := rest) X (hM H.size) cw ⟨g1, g2⟩ rfl hAn hsize hst (lv_room hW) hdg hf) hS (fun q _ h => hFc q h) hFc (fun r u t H1 locs1 ht hvm hw hB hz1 hk1 hS1 => ?_)
  obtain ⟨hP', hD'⟩ := fr_join (wc := []) (w1 := []) hP hD [] rfl rfl rfl hk1 (ht ▸ hB)
  exact kk r H1 locs1 hw hP' hS1
/-- ends of a method -/
theorem rt_I {S : Type} {post : Int32 → S → Prop} {w1 : S → va_W} {r : Int32} (hexec : p.tables.exec = Jvm.exec) (hb : c.code = cc) (hr : meth.sig.returnType = some .int) (hlocks : meth.locks = false) (hS : va_S A0 s.heap H locs) (hdg : decode cc pc = .ok (.ireturn, 1)) (u : S) (hp : post r u) (hP : va_P D vwCl (w1 u) H) : W p l e R s m args below meth c H locs cells slots (MQ below (va_Qi post (fun u t => va_P D vwCl (w1 u) t.heap) A0) args s cells slots A0) (F0 m pc ls [.int r]) :=
  W.iret hexec hb hr (fun t ht hW => ⟨⟨r, u, rfl, hp, by show va_P _ _ _ t.heap; rw [ht]; exact hP⟩, hS.F ht⟩) hS.2.2 hdg hlocks
theorem rt_Z {S : Type} {post : Int32 → S → Prop} {w1 : S → va_W} {r : Int32} (hexec : p.tables.exec = Jvm.exec) (hb : c.code = cc) (hr : meth.sig.returnType = some .boolean) (hlocks : meth.locks = false) (hS : va_S A0 s.heap H locs) (hdg : decode cc pc = .ok (.ireturn, 1)) (u : S) (hz : r = 0 ∨ r = 1) (hp : post r u) (hP : va_P D vwCl (w1 u) H) : W p l e R s m args below meth c H locs cells slots (MQ below (va_Qi post (fun u t => va_P D vwCl (w1 u) t.heap) A0) args s cells slots A0) (F0 m pc ls [.int r]) :=
  W.zret hexec hb hr (by rcases hz with rfl | rfl <;> rfl) (fun t ht hW => ⟨⟨r, u, rfl, hp, by show va_P _ _ _ t.heap; rw [ht]; exact hP⟩, hS.F ht⟩) hS.2.2 hdg hlocks
theorem rt_V {S : Type} {post : S → Prop} {w1 : S → va_W} (hexec : p.tables.exec = Jvm.exec) (hb : c.code = cc) (hr : meth.sig.returnType = none) (hlocks : meth.locks = false) (hS : va_S A0 s.heap H locs) (hdg : decode cc pc = .ok (.return_, 1)) (u : S) (hp : post u) (hP : va_P D vwCl (w1 u) H) : W p l e R s m args below meth c H locs cells slots (MQ below (va_Qv post (fun u t => va_P D vwCl (w1 u) t.heap) A0) args s cells slots A0) (F0 m pc ls []) :=
  W.vret hexec hb hr (fun t ht hW => ⟨⟨u, rfl, hp, by show va_P _ _ _ t.heap; rw [ht]; exact hP⟩, hS.F ht⟩) hS.2.2 hdg hlocks
/-- a store into an int array, with a name for what the array holds then -/
theorem ck_iast {H0 : Heap} {cl : List vw_C} {a : Nat} (hexec : p.tables.exec = Jvm.exec) (hb : c.code = cc) (hK : va_K D cl tys s) (hP : va_P D cl ws H) (hD : va_D A0 ws) (hS : va_S A0 H0 H locs) (q0 t0 : Nat) {cA : ClassId} {n : Nat} {f f' : Nat → Int32} (ha : ws[q0]? = some (a, .inl (cA, n, .inl f))) (ht : tys[t0]? = some (cA, .int)) {i : Int32} {x : Int32} (hin : vp_in i n) (hdg : decode cc pc = .ok (.iastore, 1)) (hf : f' = upd f i.toNatClampNeg x)
    (kk : ∀ (H1 : Heap) (locs1 : List Loc), va_P D cl (ws.set q0 (a, .inl (cA, n, .inl f'))) H1 → va_D A0 (ws.set q0 (a, .inl (cA, n, .inl f'))) → va_S A0 H0 H1 locs1 → W p l e R s m args below meth c H1 locs1 cells slots Q (F0 m (pc + 1) ls rest)) : W p l e R s m args below meth c H locs cells slots Q (F0 m pc ls (.int x :: .int i :: .ref a :: rest)) := by
  subst hf
  exact va_iast hexec hb hK hP hD hS q0 t0 ha ht hin hdg kk
/-- switches -/
theorem sw_in {dflt lo hi : Int} {offs : Array Int} {len : Nat} {x v : Int32} {off : Int} {tgt : Nat} (hexec : p.tables.exec = Jvm.exec) (hb : c.code = cc) (hdg : decode cc pc = .ok (.tableswitch dflt lo hi offs, len)) (hx : x = v) (h1 : ¬ v.toInt < lo) (h2 : ¬ hi < v.toInt) (ho : offs[(v.toInt - lo).toNat]? = some off) (ht : (pc : Int) + off = (tgt : Int))
    (k : W p l e R s m args below meth c H locs cells slots Q (F0 m tgt ls rest)) : W p l e R s m args below meth c H locs cells slots Q (F0 m pc ls (.int x :: rest)) := by
  subst hx
  exact lv_tableIn hexec hb hdg h1 h2 ho ht k
/-- a read of an int array, with its place as a number -/
theorem ck_iald {cl : List vw_C} {a : Nat} (hexec : p.tables.exec = Jvm.exec) (hb : c.code = cc) (hK : va_K D cl tys s) (hP : va_P D cl ws H) (q0 t0 : Nat) {cA : ClassId} {n j : Nat} {f : Nat → Int32} (ha : ws[q0]? = some (a, .inl (cA, n, .inl f))) (ht : tys[t0]? = some (cA, .int)) {i : Int32} (hin : vp_in i n) (hj : i.toNatClampNeg = j) (hdg : decode cc pc = .ok (.iaload, 1))
    (kk : W p l e R s m args below meth c H locs cells slots Q (F0 m (pc + 1) ls (.int (f j) :: rest))) : W p l e R s m args below meth c H locs cells slots Q (F0 m pc ls (.int i :: .ref a :: rest)) := by
  subst hj
  exact va_iald hexec hb hK hP q0 t0 ha ht hin hdg kk
theorem ck_cald {cl : List vw_C} {a : Nat} (hexec : p.tables.exec = Jvm.exec) (hb : c.code = cc) (hK : va_K D cl tys s) (hP : va_P D cl ws H) (q0 t0 : Nat) {cA : ClassId} {n j : Nat} {f : Nat → Int32} (ha : ws[q0]? = some (a, .inl (cA, n, .inl f))) (ht : tys[t0]? = some (cA, .char)) {i : Int32} (hin : vp_in i n) (hj : i.toNatClampNeg = j) (hdg : decode cc pc = .ok (.caload, 1))
    (kk : W p l e R s m args below meth c H locs cells slots Q (F0 m (pc + 1) ls (.int (f j) :: rest))) : W p l e R s m args below meth c H locs cells slots Q (F0 m pc ls (.int i :: .ref a :: rest)) := by
  subst hj
  exact va_cald hexec hb hK hP q0 t0 ha ht hin hdg kk
/-- a store into a char array -/
theorem ck_cast {H0 : Heap} {cl : List vw_C} {a : Nat} (hexec : p.tables.exec = Jvm.exec) (hb : c.code = cc) (hK : va_K D cl tys s) (hP : va_P D cl ws H) (hD : va_D A0 ws) (hS : va_S A0 H0 H locs) (q0 t0 : Nat) {cA : ClassId} {n : Nat} {f f' : Nat → Int32} (ha : ws[q0]? = some (a, .inl (cA, n, .inl f))) (ht : tys[t0]? = some (cA, .char)) {i : Int32} {x : Int32} (hin : vp_in i n) (hdg : decode cc pc = .ok (.castore, 1)) (hf : f' = upd f i.toNatClampNeg (vp_nar .char x))
    (kk : ∀ (H1 : Heap) (locs1 : List Loc), va_P D cl (ws.set q0 (a, .inl (cA, n, .inl f'))) H1 → va_D A0 (ws.set q0 (a, .inl (cA, n, .inl f'))) → va_S A0 H0 H1 locs1 → W p l e R s m args below meth c H1 locs1 cells slots Q (F0 m (pc + 1) ls rest)) : W p l e R s m args below meth c H locs cells slots Q (F0 m pc ls (.int x :: .int i :: .ref a :: rest)) := by
  subst hf
  exact va_cast hexec hb hK hP hD hS q0 t0 ha ht hin hdg kk
theorem ck_iadd {x y v : Int32} (hexec : p.tables.exec = Jvm.exec) (hb : c.code = cc) (hdg : decode cc pc = .ok (.iadd, 1)) (hv : x + y = v) (k : W p l e R s m args below meth c H locs cells slots Q (F0 m (pc + 1) ls (.int v :: rest))) : W p l e R s m args below meth c H locs cells slots Q (F0 m pc ls (.int y :: .int x :: rest)) := by
  subst hv
  exact lv_iadd hexec hb hdg k
theorem ck_isub {x y v : Int32} (hexec : p.tables.exec = Jvm.exec) (hb : c.code = cc) (hdg : decode cc pc = .ok (.isub, 1)) (hv : x - y = v) (k : W p l e R s m args below meth c H locs cells slots Q (F0 m (pc + 1) ls (.int v :: rest))) : W p l e R s m args below meth c H locs cells slots Q (F0 m pc ls (.int y :: .int x :: rest)) := by
  subst hv
  exact lv_isub hexec hb hdg k
theorem ck_imul {x y v : Int32} (hexec : p.tables.exec = Jvm.exec) (hb : c.code = cc) (hdg : decode cc pc = .ok (.imul, 1)) (hv : x * y = v) (k : W p l e R s m args below meth c H locs cells slots Q (F0 m (pc + 1) ls (.int v :: rest))) : W p l e R s m args below meth c H locs cells slots Q (F0 m pc ls (.int y :: .int x :: rest)) := by
  subst hv
  exact lv_imul hexec hb hdg k
theorem ck_ior {x y v : Int32} (hexec : p.tables.exec = Jvm.exec) (hb : c.code = cc) (hdg : decode cc pc = .ok (.ior, 1)) (hv : x ||| y = v) (k : W p l e R s m args below meth c H locs cells slots Q (F0 m (pc + 1) ls (.int v :: rest))) : W p l e R s m args below meth c H locs cells slots Q (F0 m pc ls (.int y :: .int x :: rest)) := by
  subst hv
  exact lv_ior hexec hb hdg k
end CK
theorem KI.ofI {l : Launch} {D : va_G} {tys : List (ClassId × FieldType)} {E : EV} {y : MethodName} {wy ws' : List Cond} {d : Nat} {av : List Value} {wc : va_W} {S : Type} {post : Int32 → S → Prop} {w1 : S → va_W} {cc : ByteArray} {maxL : Nat} {C : String} (hy : plainName y.cls = true) (hw : wy = Cond.code y cc maxL (some .int) :: ws') (hC : y.cls = C) (hal : (lg_sl av).length ≤ maxL)
    (body : ∀ (p : Program) (e : Env) (s : State) (m : MethodId) (args : Array Value) (below : List Frame) (meth : Method) (c : Code) (A : Nat → Prop) (Q : State → Prop), p.tables.exec = Jvm.exec → c.code = cc → c.maxLocals = maxL → (∀ w ∈ wy, w.before args s = true) → s.vm.findClass C = some m.cls → va_P D vwCl wc s.heap → va_K D vwCl tys s → va_D A wc → (∀ q : Nat, s.heap.size ≤ q → A q) → E A s s.heap → va_S A s.heap s.heap [] → (∀ (pc : Nat) (H : Heap) (locs : List Loc) (ls : Array Slot) (r : Int32) (u : S), decode cc pc = .ok (.ireturn, 1) → post r u → va_P D vwCl (w1 u) H → va_S A s.heap H locs → W p l e (rm d) s m args below meth c H locs 0 0 Q (F0 m pc ls [.int r])) → ∀ ls : Array Slot, lv_has ls maxL (lv_args 0 av) →
      W p l e (rm d) s m args below meth c s.heap [] 0 0 Q (F0 m 0 ls [])) : KI l D tys E y wy d av wc post w1 := by
  intro sz
  refine Met.ofW (cc := cc) (maxL := maxL) (ret := (some .int)) hy hw ?_
  intro p e s m args below meth c s₁ B hml hv
  obtain ⟨rfl, hsz, hP, hK, hD0, hE⟩ := hv
  subst hsz
  have hl := lv_entry av (n := maxL) hal
  rw [lg_entry_eq]
  exact body p e s m av.toArray below meth c (va_A wc s.heap.size) (MQ below (va_Qi post (fun u t => va_P D vwCl (w1 u) t.heap) (va_A wc s.heap.size)) av.toArray s 0 0 (va_A wc s.heap.size)) B.exec B.bytes hml (atoms_spec (ws := wy) B.pre) (hC ▸ findClass_of_methodNamed B.named) hP hK hD0.self (fun q h => Or.inr h) hE va_S.rf (fun pc H locs ls r u hdg hp hP hS => rt_I B.exec B.bytes B.returns B.notSynchronized hS hdg u hp hP) _ hl
theorem KI.ofZ {l : Launch} {D : va_G} {tys : List (ClassId × FieldType)} {E : EV} {y : MethodName} {wy ws' : List Cond} {d : Nat} {av : List Value} {wc : va_W} {S : Type} {post : Int32 → S → Prop} {w1 : S → va_W} {cc : ByteArray} {maxL : Nat} {C : String} (hy : plainName y.cls = true) (hw : wy = Cond.code y cc maxL (some .boolean) :: ws') (hC : y.cls = C) (hal : (lg_sl av).length ≤ maxL) (hpz : ∀ r u, post r u → r = 0 ∨ r = 1)
    (body : ∀ (p : Program) (e : Env) (s : State) (m : MethodId) (args : Array Value) (below : List Frame) (meth : Method) (c : Code) (A : Nat → Prop) (Q : State → Prop), p.tables.exec = Jvm.exec → c.code = cc → c.maxLocals = maxL → (∀ w ∈ wy, w.before args s = true) → s.vm.findClass C = some m.cls → va_P D vwCl wc s.heap → va_K D vwCl tys s → va_D A wc → (∀ q : Nat, s.heap.size ≤ q → A q) → E A s s.heap → va_S A s.heap s.heap [] → (∀ (pc : Nat) (H : Heap) (locs : List Loc) (ls : Array Slot) (r : Int32) (u : S), decode cc pc = .ok (.ireturn, 1) → post r u → va_P D vwCl (w1 u) H → va_S A s.heap H locs → W p l e (rm d) s m args below meth c H locs 0 0 Q (F0 m pc ls [.int r])) → ∀ ls : Array Slot, lv_has ls maxL (lv_args 0 av) →
      W p l e (rm d) s m args below meth c s.heap [] 0 0 Q (F0 m 0 ls [])) : KI l D tys E y wy d av wc post w1 := by
  intro sz
  refine Met.ofW (cc := cc) (maxL := maxL) (ret := (some .boolean)) hy hw ?_
  intro p e s m args below meth c s₁ B hml hv
  obtain ⟨rfl, hsz, hP, hK, hD0, hE⟩ := hv
  subst hsz
  have hl := lv_entry av (n := maxL) hal
  rw [lg_entry_eq]
  exact body p e s m av.toArray below meth c (va_A wc s.heap.size) (MQ below (va_Qi post (fun u t => va_P D vwCl (w1 u) t.heap) (va_A wc s.heap.size)) av.toArray s 0 0 (va_A wc s.heap.size)) B.exec B.bytes hml (atoms_spec (ws := wy) B.pre) (hC ▸ findClass_of_methodNamed B.named) hP hK hD0.self (fun q h => Or.inr h) hE va_S.rf (fun pc H locs ls r u hdg hp hP hS => rt_Z B.exec B.bytes B.returns B.notSynchronized hS hdg u (hpz r u hp) hp hP) _ hl
theorem KV.of {l : Launch} {D : va_G} {tys : List (ClassId × FieldType)} {E : EV} {y : MethodName} {wy ws' : List Cond} {d : Nat} {av : List Value} {wc : va_W} {S : Type} {post : S → Prop} {w1 : S → va_W} {cc : ByteArray} {maxL : Nat} {C : String} (hy : plainName y.cls = true) (hw : wy = Cond.code y cc maxL none :: ws') (hC : y.cls = C) (hal : (lg_sl av).length ≤ maxL)
    (body : ∀ (p : Program) (e : Env) (s : State) (m : MethodId) (args : Array Value) (below : List Frame) (meth : Method) (c : Code) (A : Nat → Prop) (Q : State → Prop), p.tables.exec = Jvm.exec → c.code = cc → c.maxLocals = maxL → (∀ w ∈ wy, w.before args s = true) → s.vm.findClass C = some m.cls → va_P D vwCl wc s.heap → va_K D vwCl tys s → va_D A wc → (∀ q : Nat, s.heap.size ≤ q → A q) → E A s s.heap → va_S A s.heap s.heap [] → (∀ (pc : Nat) (H : Heap) (locs : List Loc) (ls : Array Slot) (u : S), decode cc pc = .ok (.return_, 1) → post u → va_P D vwCl (w1 u) H → va_S A s.heap H locs → W p l e (rm d) s m args below meth c H locs 0 0 Q (F0 m pc ls [])) → ∀ ls : Array Slot, lv_has ls maxL (lv_args 0 av) →
      W p l e (rm d) s m args below meth c s.heap [] 0 0 Q (F0 m 0 ls [])) : KV l D tys E y wy d av wc post w1 := by
  intro sz
  refine Met.ofW (cc := cc) (maxL := maxL) (ret := none) hy hw ?_
  intro p e s m args below meth c s₁ B hml hv
  obtain ⟨rfl, hsz, hP, hK, hD0, hE⟩ := hv
  subst hsz
  have hl := lv_entry av (n := maxL) hal
  rw [lg_entry_eq]
  exact body p e s m av.toArray below meth c (va_A wc s.heap.size) (MQ below (va_Qv post (fun u t => va_P D vwCl (w1 u) t.heap) (va_A wc s.heap.size)) av.toArray s 0 0 (va_A wc s.heap.size)) B.exec B.bytes hml (atoms_spec (ws := wy) B.pre) (hC ▸ findClass_of_methodNamed B.named) hP hK hD0.self (fun q h => Or.inr h) hE va_S.rf (fun pc H locs ls u hdg hp hP hS => rt_V B.exec B.bytes B.returns B.notSynchronized hS hdg u hp hP) _ hl
theorem sw_ne {x v : Int32} (h : ¬ x = v) : x.toInt ≠ v.toInt := fun z => h (Int32.toInt_inj.mp z)
theorem in_lit {i : Int32} {n : Nat} (h : decide (i < 0 ∨ n ≤ i.toNatClampNeg) = false) : vp_in i n := of_decide_eq_false h
theorem or_b0 {x : Int32} (h : x = 0 ∨ x = 1) : (x ||| 0) = 0 ∨ (x ||| 0) = 1 := by rcases h with rfl | rfl <;> decide
theorem or_b1 {x : Int32} (h : x = 0 ∨ x = 1) : (x ||| 1) = 0 ∨ (x ||| 1) = 1 := by rcases h with rfl | rfl <;> decide
def imax (x y : Int32) : Int32 := if x < y then y else x
def imin (x y : Int32) : Int32 := if y < x then y else x
abbrev TY (cI cC cK cO : ClassId) : List (ClassId × FieldType) := [(cI, .int), (cC, .char), (cK, .object "BlockClerks$Clerk"), (cO, .object "BlockClerks$Office")]
/-- the reference: its object and its four rows -/
abbrev wM (cI : ClassId) (h a1 a2 a3 a4 : Nat) (zs zb za zt : Nat → Int32) (zl zu zp zw zf zg zc : Int32) : va_W := [(h, .inr (5, [.ref a1, .ref a2, .ref a3, .ref a4, .int zl, .int zu, .int zp, .int zw, .int zf, .int zg, .int zc])), (a1, .inl (cI, 3053, .inl zs)), (a2, .inl (cI, 12212, .inl zb)), (a3, .inl (cI, 3053, .inl za)), (a4, .inl (cI, 80, .inl zt))]
end
section
set_option maxRecDepth 20000 in
theorem ggX5_init_X5_n : GoodIn wsX5_init wsX5_n := goodIn_r _ [12] (by decide +kernel) (by decide +kernel)
set_option maxRecDepth 20000 in
theorem gX5_init_X5_n : GoodIn wsX5_init (va_wsS RX5 22 yX5_n wsX5_n) := goodIn_app (goodIn_of _ (by decide +kernel)) ggX5_init_X5_n
theorem dX5_init_0 : decode cX5_init 0 = .ok (.aload_n 0, 1) := by decide +kernel
theorem dX5_init_1 : decode cX5_init 1 = .ok (.invokespecial 1, 3) := by decide +kernel
theorem dX5_init_4 : decode cX5_init 4 = .ok (.aload_n 0, 1) := by decide +kernel
theorem dX5_init_5 : decode cX5_init 5 = .ok (.sipush 3053, 3) := by decide +kernel
theorem dX5_init_8 : decode cX5_init 8 = .ok (.newarray .int, 2) := by decide +kernel
theorem dX5_init_10 : decode cX5_init 10 = .ok (.putfield 7, 3) := by decide +kernel
theorem dX5_init_13 : decode cX5_init 13 = .ok (.aload_n 0, 1) := by decide +kernel
theorem dX5_init_14 : decode cX5_init 14 = .ok (.sipush 12212, 3) := by decide +kernel
theorem dX5_init_17 : decode cX5_init 17 = .ok (.newarray .int, 2) := by decide +kernel
theorem dX5_init_19 : decode cX5_init 19 = .ok (.putfield 13, 3) := by decide +kernel
theorem dX5_init_22 : decode cX5_init 22 = .ok (.aload_n 0, 1) := by decide +kernel
theorem dX5_init_23 : decode cX5_init 23 = .ok (.sipush 3053, 3) := by decide +kernel
theorem dX5_init_26 : decode cX5_init 26 = .ok (.newarray .int, 2) := by decide +kernel
theorem dX5_init_28 : decode cX5_init 28 = .ok (.putfield 16, 3) := by decide +kernel
theorem dX5_init_31 : decode cX5_init 31 = .ok (.aload_n 0, 1) := by decide +kernel
theorem dX5_init_32 : decode cX5_init 32 = .ok (.bipush 80, 2) := by decide +kernel
theorem dX5_init_34 : decode cX5_init 34 = .ok (.newarray .int, 2) := by decide +kernel
theorem dX5_init_36 : decode cX5_init 36 = .ok (.putfield 19, 3) := by decide +kernel
theorem dX5_init_39 : decode cX5_init 39 = .ok (.aload_n 0, 1) := by decide +kernel
theorem dX5_init_40 : decode cX5_init 40 = .ok (.getfield 7, 3) := by decide +kernel
theorem dX5_init_43 : decode cX5_init 43 = .ok (.iconst 0, 1) := by decide +kernel
theorem dX5_init_44 : decode cX5_init 44 = .ok (.bipush 10, 2) := by decide +kernel
theorem dX5_init_46 : decode cX5_init 46 = .ok (.iastore, 1) := by decide +kernel
theorem dX5_init_47 : decode cX5_init 47 = .ok (.aload_n 0, 1) := by decide +kernel
theorem dX5_init_48 : decode cX5_init 48 = .ok (.getfield 7, 3) := by decide +kernel
theorem dX5_init_51 : decode cX5_init 51 = .ok (.iconst 1, 1) := by decide +kernel
theorem dX5_init_52 : decode cX5_init 52 = .ok (.iconst 1, 1) := by decide +kernel
theorem dX5_init_53 : decode cX5_init 53 = .ok (.iastore, 1) := by decide +kernel
theorem dX5_init_54 : decode cX5_init 54 = .ok (.aload_n 0, 1) := by decide +kernel
theorem dX5_init_55 : decode cX5_init 55 = .ok (.getfield 7, 3) := by decide +kernel
theorem dX5_init_58 : decode cX5_init 58 = .ok (.iconst 2, 1) := by decide +kernel
theorem dX5_init_59 : decode cX5_init 59 = .ok (.iconst 4, 1) := by decide +kernel
theorem dX5_init_60 : decode cX5_init 60 = .ok (.iastore, 1) := by decide +kernel
theorem dX5_init_61 : decode cX5_init 61 = .ok (.iconst 1, 1) := by decide +kernel
theorem dX5_init_62 : decode cX5_init 62 = .ok (.istore_n 1, 1) := by decide +kernel
theorem dX5_init_63 : decode cX5_init 63 = .ok (.iload_n 1, 1) := by decide +kernel
theorem dX5_init_64 : decode cX5_init 64 = .ok (.sipush 600, 3) := by decide +kernel
theorem dX5_init_67 : decode cX5_init 67 = .ok (.if_icmp .gt 33, 3) := by decide +kernel
theorem dX5_init_70 : decode cX5_init 70 = .ok (.aload_n 0, 1) := by decide +kernel
theorem dX5_init_71 : decode cX5_init 71 = .ok (.getfield 7, 3) := by decide +kernel
theorem dX5_init_74 : decode cX5_init 74 = .ok (.iload_n 1, 1) := by decide +kernel
theorem dX5_init_75 : decode cX5_init 75 = .ok (.invokestatic 22, 3) := by decide +kernel
theorem dX5_init_78 : decode cX5_init 78 = .ok (.iconst 1, 1) := by decide +kernel
theorem dX5_init_79 : decode cX5_init 79 = .ok (.iadd, 1) := by decide +kernel
theorem dX5_init_80 : decode cX5_init 80 = .ok (.iconst (-1), 1) := by decide +kernel
theorem dX5_init_81 : decode cX5_init 81 = .ok (.iastore, 1) := by decide +kernel
theorem dX5_init_82 : decode cX5_init 82 = .ok (.aload_n 0, 1) := by decide +kernel
theorem dX5_init_83 : decode cX5_init 83 = .ok (.getfield 7, 3) := by decide +kernel
theorem dX5_init_86 : decode cX5_init 86 = .ok (.iload_n 1, 1) := by decide +kernel
theorem dX5_init_87 : decode cX5_init 87 = .ok (.invokestatic 22, 3) := by decide +kernel
theorem dX5_init_90 : decode cX5_init 90 = .ok (.iconst 2, 1) := by decide +kernel
theorem dX5_init_91 : decode cX5_init 91 = .ok (.iadd, 1) := by decide +kernel
theorem dX5_init_92 : decode cX5_init 92 = .ok (.iconst (-1), 1) := by decide +kernel
theorem dX5_init_93 : decode cX5_init 93 = .ok (.iastore, 1) := by decide +kernel
theorem dX5_init_94 : decode cX5_init 94 = .ok (.iinc 1 1, 3) := by decide +kernel
theorem dX5_init_97 : decode cX5_init 97 = .ok (.goto (-34), 3) := by decide +kernel
theorem dX5_init_100 : decode cX5_init 100 = .ok (.return_, 1) := by decide +kernel
theorem dX5_in_0 : decode cX5_in 0 = .ok (.iload_n 0, 1) := by decide +kernel
theorem dX5_in_1 : decode cX5_in 1 = .ok (.iload_n 1, 1) := by decide +kernel
theorem dX5_in_2 : decode cX5_in 2 = .ok (.if_icmp .lt 12, 3) := by decide +kernel
theorem dX5_in_5 : decode cX5_in 5 = .ok (.iload_n 0, 1) := by decide +kernel
theorem dX5_in_6 : decode cX5_in 6 = .ok (.iload_n 2, 1) := by decide +kernel
theorem dX5_in_7 : decode cX5_in 7 = .ok (.if_icmp .gt 7, 3) := by decide +kernel
theorem dX5_in_10 : decode cX5_in 10 = .ok (.iconst 1, 1) := by decide +kernel
theorem dX5_in_11 : decode cX5_in 11 = .ok (.goto 4, 3) := by decide +kernel
theorem dX5_in_14 : decode cX5_in 14 = .ok (.iconst 0, 1) := by decide +kernel
theorem dX5_in_15 : decode cX5_in 15 = .ok (.ireturn, 1) := by decide +kernel
theorem dX5_record_0 : decode cX5_record 0 = .ok (.aload_n 0, 1) := by decide +kernel
theorem dX5_record_1 : decode cX5_record 1 = .ok (.getfield 26, 3) := by decide +kernel
theorem dX5_record_4 : decode cX5_record 4 = .ok (.iconst 4, 1) := by decide +kernel
theorem dX5_record_5 : decode cX5_record 5 = .ok (.if_icmp .ne 44, 3) := by decide +kernel
theorem dX5_record_8 : decode cX5_record 8 = .ok (.iconst 0, 1) := by decide +kernel
theorem dX5_record_9 : decode cX5_record 9 = .ok (.istore_n 1, 1) := by decide +kernel
theorem dX5_record_10 : decode cX5_record 10 = .ok (.iload_n 1, 1) := by decide +kernel
theorem dX5_record_11 : decode cX5_record 11 = .ok (.sipush 9159, 3) := by decide +kernel
theorem dX5_record_14 : decode cX5_record 14 = .ok (.if_icmp .ge 25, 3) := by decide +kernel
theorem dX5_record_17 : decode cX5_record 17 = .ok (.aload_n 0, 1) := by decide +kernel
theorem dX5_record_18 : decode cX5_record 18 = .ok (.getfield 13, 3) := by decide +kernel
theorem dX5_record_21 : decode cX5_record 21 = .ok (.iload_n 1, 1) := by decide +kernel
theorem dX5_record_22 : decode cX5_record 22 = .ok (.aload_n 0, 1) := by decide +kernel
theorem dX5_record_23 : decode cX5_record 23 = .ok (.getfield 13, 3) := by decide +kernel
theorem dX5_record_26 : decode cX5_record 26 = .ok (.sipush 3053, 3) := by decide +kernel
theorem dX5_record_29 : decode cX5_record 29 = .ok (.iload_n 1, 1) := by decide +kernel
theorem dX5_record_30 : decode cX5_record 30 = .ok (.iadd, 1) := by decide +kernel
theorem dX5_record_31 : decode cX5_record 31 = .ok (.iaload, 1) := by decide +kernel
theorem dX5_record_32 : decode cX5_record 32 = .ok (.iastore, 1) := by decide +kernel
theorem dX5_record_33 : decode cX5_record 33 = .ok (.iinc 1 1, 3) := by decide +kernel
theorem dX5_record_36 : decode cX5_record 36 = .ok (.goto (-26), 3) := by decide +kernel
theorem dX5_record_39 : decode cX5_record 39 = .ok (.aload_n 0, 1) := by decide +kernel
theorem dX5_record_40 : decode cX5_record 40 = .ok (.dup, 1) := by decide +kernel
theorem dX5_record_41 : decode cX5_record 41 = .ok (.getfield 26, 3) := by decide +kernel
theorem dX5_record_44 : decode cX5_record 44 = .ok (.iconst 1, 1) := by decide +kernel
theorem dX5_record_45 : decode cX5_record 45 = .ok (.isub, 1) := by decide +kernel
theorem dX5_record_46 : decode cX5_record 46 = .ok (.putfield 26, 3) := by decide +kernel
theorem dX5_record_49 : decode cX5_record 49 = .ok (.iconst 0, 1) := by decide +kernel
theorem dX5_record_50 : decode cX5_record 50 = .ok (.istore_n 1, 1) := by decide +kernel
theorem dX5_record_51 : decode cX5_record 51 = .ok (.iload_n 1, 1) := by decide +kernel
theorem dX5_record_52 : decode cX5_record 52 = .ok (.sipush 3053, 3) := by decide +kernel
theorem dX5_record_55 : decode cX5_record 55 = .ok (.if_icmp .ge 30, 3) := by decide +kernel
theorem dX5_record_58 : decode cX5_record 58 = .ok (.aload_n 0, 1) := by decide +kernel
theorem dX5_record_59 : decode cX5_record 59 = .ok (.getfield 13, 3) := by decide +kernel
theorem dX5_record_62 : decode cX5_record 62 = .ok (.sipush 3053, 3) := by decide +kernel
theorem dX5_record_65 : decode cX5_record 65 = .ok (.aload_n 0, 1) := by decide +kernel
theorem dX5_record_66 : decode cX5_record 66 = .ok (.getfield 26, 3) := by decide +kernel
theorem dX5_record_69 : decode cX5_record 69 = .ok (.imul, 1) := by decide +kernel
theorem dX5_record_70 : decode cX5_record 70 = .ok (.iload_n 1, 1) := by decide +kernel
theorem dX5_record_71 : decode cX5_record 71 = .ok (.iadd, 1) := by decide +kernel
theorem dX5_record_72 : decode cX5_record 72 = .ok (.aload_n 0, 1) := by decide +kernel
theorem dX5_record_73 : decode cX5_record 73 = .ok (.getfield 7, 3) := by decide +kernel
theorem dX5_record_76 : decode cX5_record 76 = .ok (.iload_n 1, 1) := by decide +kernel
theorem dX5_record_77 : decode cX5_record 77 = .ok (.iaload, 1) := by decide +kernel
theorem dX5_record_78 : decode cX5_record 78 = .ok (.iastore, 1) := by decide +kernel
theorem dX5_record_79 : decode cX5_record 79 = .ok (.iinc 1 1, 3) := by decide +kernel
theorem dX5_record_82 : decode cX5_record 82 = .ok (.goto (-31), 3) := by decide +kernel
theorem dX5_record_85 : decode cX5_record 85 = .ok (.aload_n 0, 1) := by decide +kernel
theorem dX5_record_86 : decode cX5_record 86 = .ok (.dup, 1) := by decide +kernel
theorem dX5_record_87 : decode cX5_record 87 = .ok (.getfield 26, 3) := by decide +kernel
theorem dX5_record_90 : decode cX5_record 90 = .ok (.iconst 1, 1) := by decide +kernel
theorem dX5_record_91 : decode cX5_record 91 = .ok (.iadd, 1) := by decide +kernel
theorem dX5_record_92 : decode cX5_record 92 = .ok (.putfield 26, 3) := by decide +kernel
theorem dX5_record_95 : decode cX5_record 95 = .ok (.return_, 1) := by decide +kernel
theorem dX5_layAside_0 : decode cX5_layAside 0 = .ok (.iconst 0, 1) := by decide +kernel
theorem dX5_layAside_1 : decode cX5_layAside 1 = .ok (.istore_n 1, 1) := by decide +kernel
theorem dX5_layAside_2 : decode cX5_layAside 2 = .ok (.iload_n 1, 1) := by decide +kernel
theorem dX5_layAside_3 : decode cX5_layAside 3 = .ok (.sipush 3053, 3) := by decide +kernel
theorem dX5_layAside_6 : decode cX5_layAside 6 = .ok (.if_icmp .ge 21, 3) := by decide +kernel
theorem dX5_layAside_9 : decode cX5_layAside 9 = .ok (.aload_n 0, 1) := by decide +kernel
theorem dX5_layAside_10 : decode cX5_layAside 10 = .ok (.getfield 16, 3) := by decide +kernel
theorem dX5_layAside_13 : decode cX5_layAside 13 = .ok (.iload_n 1, 1) := by decide +kernel
theorem dX5_layAside_14 : decode cX5_layAside 14 = .ok (.aload_n 0, 1) := by decide +kernel
theorem dX5_layAside_15 : decode cX5_layAside 15 = .ok (.getfield 7, 3) := by decide +kernel
theorem dX5_layAside_18 : decode cX5_layAside 18 = .ok (.iload_n 1, 1) := by decide +kernel
theorem dX5_layAside_19 : decode cX5_layAside 19 = .ok (.iaload, 1) := by decide +kernel
theorem dX5_layAside_20 : decode cX5_layAside 20 = .ok (.iastore, 1) := by decide +kernel
theorem dX5_layAside_21 : decode cX5_layAside 21 = .ok (.iinc 1 1, 3) := by decide +kernel
theorem dX5_layAside_24 : decode cX5_layAside 24 = .ok (.goto (-22), 3) := by decide +kernel
theorem dX5_layAside_27 : decode cX5_layAside 27 = .ok (.return_, 1) := by decide +kernel
theorem dX5_layBack_0 : decode cX5_layBack 0 = .ok (.iconst 0, 1) := by decide +kernel
theorem dX5_layBack_1 : decode cX5_layBack 1 = .ok (.istore_n 1, 1) := by decide +kernel
theorem dX5_layBack_2 : decode cX5_layBack 2 = .ok (.iload_n 1, 1) := by decide +kernel
theorem dX5_layBack_3 : decode cX5_layBack 3 = .ok (.sipush 3053, 3) := by decide +kernel
theorem dX5_layBack_6 : decode cX5_layBack 6 = .ok (.if_icmp .ge 21, 3) := by decide +kernel
theorem dX5_layBack_9 : decode cX5_layBack 9 = .ok (.aload_n 0, 1) := by decide +kernel
theorem dX5_layBack_10 : decode cX5_layBack 10 = .ok (.getfield 7, 3) := by decide +kernel
theorem dX5_layBack_13 : decode cX5_layBack 13 = .ok (.iload_n 1, 1) := by decide +kernel
theorem dX5_layBack_14 : decode cX5_layBack 14 = .ok (.aload_n 0, 1) := by decide +kernel
theorem dX5_layBack_15 : decode cX5_layBack 15 = .ok (.getfield 16, 3) := by decide +kernel
theorem dX5_layBack_18 : decode cX5_layBack 18 = .ok (.iload_n 1, 1) := by decide +kernel
theorem dX5_layBack_19 : decode cX5_layBack 19 = .ok (.iaload, 1) := by decide +kernel
theorem dX5_layBack_20 : decode cX5_layBack 20 = .ok (.iastore, 1) := by decide +kernel
theorem dX5_layBack_21 : decode cX5_layBack 21 = .ok (.iinc 1 1, 3) := by decide +kernel
theorem dX5_layBack_24 : decode cX5_layBack 24 = .ok (.goto (-22), 3) := by decide +kernel
theorem dX5_layBack_27 : decode cX5_layBack 27 = .ok (.return_, 1) := by decide +kernel
theorem dX5_n_0 : decode cX5_n 0 = .ok (.bipush 48, 2) := by decide +kernel
theorem dX5_n_2 : decode cX5_n 2 = .ok (.iconst 5, 1) := by decide +kernel
theorem dX5_n_3 : decode cX5_n 3 = .ok (.iload_n 0, 1) := by decide +kernel
theorem dX5_n_4 : decode cX5_n 4 = .ok (.imul, 1) := by decide +kernel
theorem dX5_n_5 : decode cX5_n 5 = .ok (.iadd, 1) := by decide +kernel
theorem dX5_n_6 : decode cX5_n 6 = .ok (.ireturn, 1) := by decide +kernel
theorem dX5_c_0 : decode cX5_c 0 = .ok (.bipush 6, 2) := by decide +kernel
theorem dX5_c_2 : decode cX5_c 2 = .ok (.bipush 7, 2) := by decide +kernel
theorem dX5_c_4 : decode cX5_c 4 = .ok (.iload_n 0, 1) := by decide +kernel
theorem dX5_c_5 : decode cX5_c 5 = .ok (.imul, 1) := by decide +kernel
theorem dX5_c_6 : decode cX5_c 6 = .ok (.iadd, 1) := by decide +kernel
theorem dX5_c_7 : decode cX5_c 7 = .ok (.ireturn, 1) := by decide +kernel
set_option maxRecDepth 20000 in
theorem ggX5_isClerk_X5_in : GoodIn wsX5_isClerk wsX5_in := goodIn_r _ [5] (by decide +kernel) (by decide +kernel)
set_option maxRecDepth 20000 in
theorem gX5_isClerk_X5_in : GoodIn wsX5_isClerk (va_wsS RX5 30 yX5_in wsX5_in) := goodIn_app (goodIn_of _ (by decide +kernel)) ggX5_isClerk_X5_in
theorem dX5_isClerk_0 : decode cX5_isClerk 0 = .ok (.iload_n 1, 1) := by decide +kernel
theorem dX5_isClerk_1 : decode cX5_isClerk 1 = .ok (.iconst 0, 1) := by decide +kernel
theorem dX5_isClerk_2 : decode cX5_isClerk 2 = .ok (.aload_n 0, 1) := by decide +kernel
theorem dX5_isClerk_3 : decode cX5_isClerk 3 = .ok (.getfield 7, 3) := by decide +kernel
theorem dX5_isClerk_6 : decode cX5_isClerk 6 = .ok (.iconst 3, 1) := by decide +kernel
theorem dX5_isClerk_7 : decode cX5_isClerk 7 = .ok (.iaload, 1) := by decide +kernel
theorem dX5_isClerk_8 : decode cX5_isClerk 8 = .ok (.iconst 1, 1) := by decide +kernel
theorem dX5_isClerk_9 : decode cX5_isClerk 9 = .ok (.isub, 1) := by decide +kernel
theorem dX5_isClerk_10 : decode cX5_isClerk 10 = .ok (.invokestatic 30, 3) := by decide +kernel
theorem dX5_isClerk_13 : decode cX5_isClerk 13 = .ok (.ireturn, 1) := by decide +kernel
set_option maxRecDepth 20000 in
theorem ggX5_isNumber_X5_in : GoodIn wsX5_isNumber wsX5_in := goodIn_r _ [4] (by decide +kernel) (by decide +kernel)
set_option maxRecDepth 20000 in
theorem gX5_isNumber_X5_in : GoodIn wsX5_isNumber (va_wsS RX5 30 yX5_in wsX5_in) := goodIn_app (goodIn_of _ (by decide +kernel)) ggX5_isNumber_X5_in
theorem dX5_isNumber_0 : decode cX5_isNumber 0 = .ok (.iload_n 0, 1) := by decide +kernel
theorem dX5_isNumber_1 : decode cX5_isNumber 1 = .ok (.iconst 1, 1) := by decide +kernel
theorem dX5_isNumber_2 : decode cX5_isNumber 2 = .ok (.sipush 600, 3) := by decide +kernel
theorem dX5_isNumber_5 : decode cX5_isNumber 5 = .ok (.invokestatic 30, 3) := by decide +kernel
theorem dX5_isNumber_8 : decode cX5_isNumber 8 = .ok (.ireturn, 1) := by decide +kernel
set_option maxRecDepth 20000 in
theorem ggX5_holds_X5_c : GoodIn wsX5_holds wsX5_c := goodIn_r _ [5] (by decide +kernel) (by decide +kernel)
set_option maxRecDepth 20000 in
theorem gX5_holds_X5_c : GoodIn wsX5_holds (va_wsS RX5 34 yX5_c wsX5_c) := goodIn_app (goodIn_of _ (by decide +kernel)) ggX5_holds_X5_c
theorem dX5_holds_0 : decode cX5_holds 0 = .ok (.aload_n 0, 1) := by decide +kernel
theorem dX5_holds_1 : decode cX5_holds 1 = .ok (.getfield 7, 3) := by decide +kernel
theorem dX5_holds_4 : decode cX5_holds 4 = .ok (.iload_n 1, 1) := by decide +kernel
theorem dX5_holds_5 : decode cX5_holds 5 = .ok (.invokestatic 34, 3) := by decide +kernel
theorem dX5_holds_8 : decode cX5_holds 8 = .ok (.iconst 2, 1) := by decide +kernel
theorem dX5_holds_9 : decode cX5_holds 9 = .ok (.iadd, 1) := by decide +kernel
theorem dX5_holds_10 : decode cX5_holds 10 = .ok (.iaload, 1) := by decide +kernel
theorem dX5_holds_11 : decode cX5_holds 11 = .ok (.aload_n 0, 1) := by decide +kernel
theorem dX5_holds_12 : decode cX5_holds 12 = .ok (.getfield 7, 3) := by decide +kernel
theorem dX5_holds_15 : decode cX5_holds 15 = .ok (.iload_n 1, 1) := by decide +kernel
theorem dX5_holds_16 : decode cX5_holds 16 = .ok (.invokestatic 34, 3) := by decide +kernel
theorem dX5_holds_19 : decode cX5_holds 19 = .ok (.iconst 1, 1) := by decide +kernel
theorem dX5_holds_20 : decode cX5_holds 20 = .ok (.iadd, 1) := by decide +kernel
theorem dX5_holds_21 : decode cX5_holds 21 = .ok (.iaload, 1) := by decide +kernel
theorem dX5_holds_22 : decode cX5_holds 22 = .ok (.isub, 1) := by decide +kernel
theorem dX5_holds_23 : decode cX5_holds 23 = .ok (.iconst 1, 1) := by decide +kernel
theorem dX5_holds_24 : decode cX5_holds 24 = .ok (.iadd, 1) := by decide +kernel
theorem dX5_holds_25 : decode cX5_holds 25 = .ok (.ireturn, 1) := by decide +kernel
set_option maxRecDepth 20000 in
theorem ggX5_many_X5_n : GoodIn wsX5_many wsX5_n := goodIn_r _ [5] (by decide +kernel) (by decide +kernel)
set_option maxRecDepth 20000 in
theorem gX5_many_X5_n : GoodIn wsX5_many (va_wsS RX5 22 yX5_n wsX5_n) := goodIn_app (goodIn_of _ (by decide +kernel)) ggX5_many_X5_n
theorem dX5_many_0 : decode cX5_many 0 = .ok (.iconst 0, 1) := by decide +kernel
theorem dX5_many_1 : decode cX5_many 1 = .ok (.istore_n 2, 1) := by decide +kernel
theorem dX5_many_2 : decode cX5_many 2 = .ok (.iconst 1, 1) := by decide +kernel
theorem dX5_many_3 : decode cX5_many 3 = .ok (.istore_n 3, 1) := by decide +kernel
theorem dX5_many_4 : decode cX5_many 4 = .ok (.iload_n 3, 1) := by decide +kernel
theorem dX5_many_5 : decode cX5_many 5 = .ok (.sipush 600, 3) := by decide +kernel
theorem dX5_many_8 : decode cX5_many 8 = .ok (.if_icmp .gt 32, 3) := by decide +kernel
theorem dX5_many_11 : decode cX5_many 11 = .ok (.iload_n 2, 1) := by decide +kernel
theorem dX5_many_12 : decode cX5_many 12 = .ok (.aload_n 0, 1) := by decide +kernel
theorem dX5_many_13 : decode cX5_many 13 = .ok (.getfield 7, 3) := by decide +kernel
theorem dX5_many_16 : decode cX5_many 16 = .ok (.iload_n 3, 1) := by decide +kernel
theorem dX5_many_17 : decode cX5_many 17 = .ok (.invokestatic 22, 3) := by decide +kernel
theorem dX5_many_20 : decode cX5_many 20 = .ok (.iconst 0, 1) := by decide +kernel
theorem dX5_many_21 : decode cX5_many 21 = .ok (.iadd, 1) := by decide +kernel
theorem dX5_many_22 : decode cX5_many 22 = .ok (.iaload, 1) := by decide +kernel
theorem dX5_many_23 : decode cX5_many 23 = .ok (.iload_n 1, 1) := by decide +kernel
theorem dX5_many_24 : decode cX5_many 24 = .ok (.if_icmp .ne 7, 3) := by decide +kernel
theorem dX5_many_27 : decode cX5_many 27 = .ok (.iconst 1, 1) := by decide +kernel
theorem dX5_many_28 : decode cX5_many 28 = .ok (.goto 4, 3) := by decide +kernel
theorem dX5_many_31 : decode cX5_many 31 = .ok (.iconst 0, 1) := by decide +kernel
theorem dX5_many_32 : decode cX5_many 32 = .ok (.iadd, 1) := by decide +kernel
theorem dX5_many_33 : decode cX5_many 33 = .ok (.istore_n 2, 1) := by decide +kernel
theorem dX5_many_34 : decode cX5_many 34 = .ok (.iinc 3 1, 3) := by decide +kernel
theorem dX5_many_37 : decode cX5_many 37 = .ok (.goto (-33), 3) := by decide +kernel
theorem dX5_many_40 : decode cX5_many 40 = .ok (.iload_n 2, 1) := by decide +kernel
theorem dX5_many_41 : decode cX5_many 41 = .ok (.ireturn, 1) := by decide +kernel
set_option maxRecDepth 20000 in
theorem ggX5_lowest_X5_n : GoodIn wsX5_lowest wsX5_n := goodIn_r _ [5] (by decide +kernel) (by decide +kernel)
set_option maxRecDepth 20000 in
theorem gX5_lowest_X5_n : GoodIn wsX5_lowest (va_wsS RX5 22 yX5_n wsX5_n) := goodIn_app (goodIn_of _ (by decide +kernel)) ggX5_lowest_X5_n
theorem dX5_lowest_0 : decode cX5_lowest 0 = .ok (.iconst 1, 1) := by decide +kernel
theorem dX5_lowest_1 : decode cX5_lowest 1 = .ok (.istore_n 2, 1) := by decide +kernel
theorem dX5_lowest_2 : decode cX5_lowest 2 = .ok (.iload_n 2, 1) := by decide +kernel
theorem dX5_lowest_3 : decode cX5_lowest 3 = .ok (.sipush 600, 3) := by decide +kernel
theorem dX5_lowest_6 : decode cX5_lowest 6 = .ok (.if_icmp .gt 24, 3) := by decide +kernel
theorem dX5_lowest_9 : decode cX5_lowest 9 = .ok (.aload_n 0, 1) := by decide +kernel
theorem dX5_lowest_10 : decode cX5_lowest 10 = .ok (.getfield 7, 3) := by decide +kernel
theorem dX5_lowest_13 : decode cX5_lowest 13 = .ok (.iload_n 2, 1) := by decide +kernel
theorem dX5_lowest_14 : decode cX5_lowest 14 = .ok (.invokestatic 22, 3) := by decide +kernel
theorem dX5_lowest_17 : decode cX5_lowest 17 = .ok (.iconst 0, 1) := by decide +kernel
theorem dX5_lowest_18 : decode cX5_lowest 18 = .ok (.iadd, 1) := by decide +kernel
theorem dX5_lowest_19 : decode cX5_lowest 19 = .ok (.iaload, 1) := by decide +kernel
theorem dX5_lowest_20 : decode cX5_lowest 20 = .ok (.iload_n 1, 1) := by decide +kernel
theorem dX5_lowest_21 : decode cX5_lowest 21 = .ok (.if_icmp .eq 9, 3) := by decide +kernel
theorem dX5_lowest_24 : decode cX5_lowest 24 = .ok (.iinc 2 1, 3) := by decide +kernel
theorem dX5_lowest_27 : decode cX5_lowest 27 = .ok (.goto (-25), 3) := by decide +kernel
theorem dX5_lowest_30 : decode cX5_lowest 30 = .ok (.iload_n 2, 1) := by decide +kernel
theorem dX5_lowest_31 : decode cX5_lowest 31 = .ok (.ireturn, 1) := by decide +kernel
set_option maxRecDepth 20000 in
theorem ggX5_goClerk_X5_c : GoodIn wsX5_goClerk wsX5_c := goodIn_r _ [5] (by decide +kernel) (by decide +kernel)
set_option maxRecDepth 20000 in
theorem gX5_goClerk_X5_c : GoodIn wsX5_goClerk (va_wsS RX5 34 yX5_c wsX5_c) := goodIn_app (goodIn_of _ (by decide +kernel)) ggX5_goClerk_X5_c
theorem dX5_goClerk_0 : decode cX5_goClerk 0 = .ok (.aload_n 0, 1) := by decide +kernel
theorem dX5_goClerk_1 : decode cX5_goClerk 1 = .ok (.getfield 7, 3) := by decide +kernel
theorem dX5_goClerk_4 : decode cX5_goClerk 4 = .ok (.iconst 3, 1) := by decide +kernel
theorem dX5_goClerk_5 : decode cX5_goClerk 5 = .ok (.iaload, 1) := by decide +kernel
theorem dX5_goClerk_6 : decode cX5_goClerk 6 = .ok (.invokestatic 34, 3) := by decide +kernel
theorem dX5_goClerk_9 : decode cX5_goClerk 9 = .ok (.istore_n 2, 1) := by decide +kernel
theorem dX5_goClerk_10 : decode cX5_goClerk 10 = .ok (.aload_n 0, 1) := by decide +kernel
theorem dX5_goClerk_11 : decode cX5_goClerk 11 = .ok (.getfield 7, 3) := by decide +kernel
theorem dX5_goClerk_14 : decode cX5_goClerk 14 = .ok (.iload_n 2, 1) := by decide +kernel
theorem dX5_goClerk_15 : decode cX5_goClerk 15 = .ok (.iconst 0, 1) := by decide +kernel
theorem dX5_goClerk_16 : decode cX5_goClerk 16 = .ok (.iadd, 1) := by decide +kernel
theorem dX5_goClerk_17 : decode cX5_goClerk 17 = .ok (.iload_n 1, 1) := by decide +kernel
theorem dX5_goClerk_18 : decode cX5_goClerk 18 = .ok (.iastore, 1) := by decide +kernel
theorem dX5_goClerk_19 : decode cX5_goClerk 19 = .ok (.aload_n 0, 1) := by decide +kernel
theorem dX5_goClerk_20 : decode cX5_goClerk 20 = .ok (.getfield 7, 3) := by decide +kernel
theorem dX5_goClerk_23 : decode cX5_goClerk 23 = .ok (.iload_n 2, 1) := by decide +kernel
theorem dX5_goClerk_24 : decode cX5_goClerk 24 = .ok (.iconst 1, 1) := by decide +kernel
theorem dX5_goClerk_25 : decode cX5_goClerk 25 = .ok (.iadd, 1) := by decide +kernel
theorem dX5_goClerk_26 : decode cX5_goClerk 26 = .ok (.iconst 1, 1) := by decide +kernel
theorem dX5_goClerk_27 : decode cX5_goClerk 27 = .ok (.iastore, 1) := by decide +kernel
theorem dX5_goClerk_28 : decode cX5_goClerk 28 = .ok (.aload_n 0, 1) := by decide +kernel
theorem dX5_goClerk_29 : decode cX5_goClerk 29 = .ok (.getfield 7, 3) := by decide +kernel
theorem dX5_goClerk_32 : decode cX5_goClerk 32 = .ok (.iload_n 2, 1) := by decide +kernel
theorem dX5_goClerk_33 : decode cX5_goClerk 33 = .ok (.iconst 2, 1) := by decide +kernel
theorem dX5_goClerk_34 : decode cX5_goClerk 34 = .ok (.iadd, 1) := by decide +kernel
theorem dX5_goClerk_35 : decode cX5_goClerk 35 = .ok (.iconst 0, 1) := by decide +kernel
theorem dX5_goClerk_36 : decode cX5_goClerk 36 = .ok (.iastore, 1) := by decide +kernel
theorem dX5_goClerk_37 : decode cX5_goClerk 37 = .ok (.aload_n 0, 1) := by decide +kernel
theorem dX5_goClerk_38 : decode cX5_goClerk 38 = .ok (.getfield 7, 3) := by decide +kernel
theorem dX5_goClerk_41 : decode cX5_goClerk 41 = .ok (.iload_n 2, 1) := by decide +kernel
theorem dX5_goClerk_42 : decode cX5_goClerk 42 = .ok (.bipush 6, 2) := by decide +kernel
theorem dX5_goClerk_44 : decode cX5_goClerk 44 = .ok (.iadd, 1) := by decide +kernel
theorem dX5_goClerk_45 : decode cX5_goClerk 45 = .ok (.iconst (-1), 1) := by decide +kernel
theorem dX5_goClerk_46 : decode cX5_goClerk 46 = .ok (.iastore, 1) := by decide +kernel
theorem dX5_goClerk_47 : decode cX5_goClerk 47 = .ok (.aload_n 0, 1) := by decide +kernel
theorem dX5_goClerk_48 : decode cX5_goClerk 48 = .ok (.getfield 7, 3) := by decide +kernel
theorem dX5_goClerk_51 : decode cX5_goClerk 51 = .ok (.iconst 3, 1) := by decide +kernel
theorem dX5_goClerk_52 : decode cX5_goClerk 52 = .ok (.dup2, 1) := by decide +kernel
theorem dX5_goClerk_53 : decode cX5_goClerk 53 = .ok (.iaload, 1) := by decide +kernel
theorem dX5_goClerk_54 : decode cX5_goClerk 54 = .ok (.iconst 1, 1) := by decide +kernel
theorem dX5_goClerk_55 : decode cX5_goClerk 55 = .ok (.iadd, 1) := by decide +kernel
theorem dX5_goClerk_56 : decode cX5_goClerk 56 = .ok (.iastore, 1) := by decide +kernel
theorem dX5_goClerk_57 : decode cX5_goClerk 57 = .ok (.aload_n 0, 1) := by decide +kernel
theorem dX5_goClerk_58 : decode cX5_goClerk 58 = .ok (.getfield 7, 3) := by decide +kernel
theorem dX5_goClerk_61 : decode cX5_goClerk 61 = .ok (.iconst 3, 1) := by decide +kernel
theorem dX5_goClerk_62 : decode cX5_goClerk 62 = .ok (.iaload, 1) := by decide +kernel
theorem dX5_goClerk_63 : decode cX5_goClerk 63 = .ok (.iconst 1, 1) := by decide +kernel
theorem dX5_goClerk_64 : decode cX5_goClerk 64 = .ok (.isub, 1) := by decide +kernel
theorem dX5_goClerk_65 : decode cX5_goClerk 65 = .ok (.ireturn, 1) := by decide +kernel
set_option maxRecDepth 20000 in
theorem ggX5_clerk_X5_in : GoodIn wsX5_clerk wsX5_in := goodIn_r _ [5] (by decide +kernel) (by decide +kernel)
set_option maxRecDepth 20000 in
theorem gX5_clerk_X5_in : GoodIn wsX5_clerk (va_wsS RX5 30 yX5_in wsX5_in) := goodIn_app (goodIn_of _ (by decide +kernel)) ggX5_clerk_X5_in
set_option maxRecDepth 20000 in
theorem ggX5_clerk_X5_record : GoodIn wsX5_clerk wsX5_record := goodIn_r _ [9, 10, 11, 1, 19, 20, 21, 22, 23, 24, 25, 26, 27, 28, 29] (by decide +kernel) (by decide +kernel)
set_option maxRecDepth 20000 in
theorem gX5_clerk_X5_record : GoodIn wsX5_clerk (wsV RX5 37 RX5 yX5_record wsX5_record) := goodIn_app (goodIn_of _ (by decide +kernel)) ggX5_clerk_X5_record
set_option maxRecDepth 20000 in
theorem ggX5_clerk_X5_goClerk : GoodIn wsX5_clerk wsX5_goClerk := goodIn_r _ [15, 1, 16, 17, 4, 18, 19, 20, 21, 22, 23, 24, 25, 26, 27, 28, 29] (by decide +kernel) (by decide +kernel)
set_option maxRecDepth 20000 in
theorem gX5_clerk_X5_goClerk : GoodIn wsX5_clerk (wsV RX5 40 RX5 yX5_goClerk wsX5_goClerk) := goodIn_app (goodIn_of _ (by decide +kernel)) ggX5_clerk_X5_goClerk
theorem dX5_clerk_0 : decode cX5_clerk 0 = .ok (.iload_n 1, 1) := by decide +kernel
theorem dX5_clerk_1 : decode cX5_clerk 1 = .ok (.iconst 0, 1) := by decide +kernel
theorem dX5_clerk_2 : decode cX5_clerk 2 = .ok (.iconst 2, 1) := by decide +kernel
theorem dX5_clerk_3 : decode cX5_clerk 3 = .ok (.invokestatic 30, 3) := by decide +kernel
theorem dX5_clerk_6 : decode cX5_clerk 6 = .ok (.ifCond .ne 5, 3) := by decide +kernel
theorem dX5_clerk_9 : decode cX5_clerk 9 = .ok (.iconst (-1), 1) := by decide +kernel
theorem dX5_clerk_10 : decode cX5_clerk 10 = .ok (.ireturn, 1) := by decide +kernel
theorem dX5_clerk_11 : decode cX5_clerk 11 = .ok (.aload_n 0, 1) := by decide +kernel
theorem dX5_clerk_12 : decode cX5_clerk 12 = .ok (.getfield 7, 3) := by decide +kernel
theorem dX5_clerk_15 : decode cX5_clerk 15 = .ok (.iconst 3, 1) := by decide +kernel
theorem dX5_clerk_16 : decode cX5_clerk 16 = .ok (.iaload, 1) := by decide +kernel
theorem dX5_clerk_17 : decode cX5_clerk 17 = .ok (.bipush 6, 2) := by decide +kernel
theorem dX5_clerk_19 : decode cX5_clerk 19 = .ok (.if_icmp .ne 6, 3) := by decide +kernel
theorem dX5_clerk_22 : decode cX5_clerk 22 = .ok (.bipush (-3), 2) := by decide +kernel
theorem dX5_clerk_24 : decode cX5_clerk 24 = .ok (.ireturn, 1) := by decide +kernel
theorem dX5_clerk_25 : decode cX5_clerk 25 = .ok (.aload_n 0, 1) := by decide +kernel
theorem dX5_clerk_26 : decode cX5_clerk 26 = .ok (.invokevirtual 37, 3) := by decide +kernel
theorem dX5_clerk_29 : decode cX5_clerk 29 = .ok (.aload_n 0, 1) := by decide +kernel
theorem dX5_clerk_30 : decode cX5_clerk 30 = .ok (.iload_n 1, 1) := by decide +kernel
theorem dX5_clerk_31 : decode cX5_clerk 31 = .ok (.invokevirtual 40, 3) := by decide +kernel
theorem dX5_clerk_34 : decode cX5_clerk 34 = .ok (.ireturn, 1) := by decide +kernel
set_option maxRecDepth 20000 in
theorem ggX5_blockFrom_X5_lowest : GoodIn wsX5_blockFrom wsX5_lowest := goodIn_r _ [6, 1, 7, 8, 5, 9, 10, 11, 12, 13, 14, 15, 16, 17, 18, 19, 20] (by decide +kernel) (by decide +kernel)
set_option maxRecDepth 20000 in
theorem gX5_blockFrom_X5_lowest : GoodIn wsX5_blockFrom (wsV RX5 43 RX5 yX5_lowest wsX5_lowest) := goodIn_app (goodIn_of _ (by decide +kernel)) ggX5_blockFrom_X5_lowest
theorem dX5_blockFrom_0 : decode cX5_blockFrom 0 = .ok (.aload_n 0, 1) := by decide +kernel
theorem dX5_blockFrom_1 : decode cX5_blockFrom 1 = .ok (.getfield 7, 3) := by decide +kernel
theorem dX5_blockFrom_4 : decode cX5_blockFrom 4 = .ok (.iconst 1, 1) := by decide +kernel
theorem dX5_blockFrom_5 : decode cX5_blockFrom 5 = .ok (.iaload, 1) := by decide +kernel
theorem dX5_blockFrom_6 : decode cX5_blockFrom 6 = .ok (.iconst 1, 1) := by decide +kernel
theorem dX5_blockFrom_7 : decode cX5_blockFrom 7 = .ok (.if_icmp .ne 11, 3) := by decide +kernel
theorem dX5_blockFrom_10 : decode cX5_blockFrom 10 = .ok (.aload_n 0, 1) := by decide +kernel
theorem dX5_blockFrom_11 : decode cX5_blockFrom 11 = .ok (.iconst 3, 1) := by decide +kernel
theorem dX5_blockFrom_12 : decode cX5_blockFrom 12 = .ok (.invokevirtual 43, 3) := by decide +kernel
theorem dX5_blockFrom_15 : decode cX5_blockFrom 15 = .ok (.goto 6, 3) := by decide +kernel
theorem dX5_blockFrom_18 : decode cX5_blockFrom 18 = .ok (.sipush 601, 3) := by decide +kernel
theorem dX5_blockFrom_21 : decode cX5_blockFrom 21 = .ok (.istore_n 1, 1) := by decide +kernel
theorem dX5_blockFrom_22 : decode cX5_blockFrom 22 = .ok (.iload_n 1, 1) := by decide +kernel
theorem dX5_blockFrom_23 : decode cX5_blockFrom 23 = .ok (.sipush 600, 3) := by decide +kernel
theorem dX5_blockFrom_26 : decode cX5_blockFrom 26 = .ok (.if_icmp .gt 7, 3) := by decide +kernel
theorem dX5_blockFrom_29 : decode cX5_blockFrom 29 = .ok (.iload_n 1, 1) := by decide +kernel
theorem dX5_blockFrom_30 : decode cX5_blockFrom 30 = .ok (.goto 8, 3) := by decide +kernel
theorem dX5_blockFrom_33 : decode cX5_blockFrom 33 = .ok (.aload_n 0, 1) := by decide +kernel
theorem dX5_blockFrom_34 : decode cX5_blockFrom 34 = .ok (.iconst 0, 1) := by decide +kernel
theorem dX5_blockFrom_35 : decode cX5_blockFrom 35 = .ok (.invokevirtual 43, 3) := by decide +kernel
theorem dX5_blockFrom_38 : decode cX5_blockFrom 38 = .ok (.ireturn, 1) := by decide +kernel
set_option maxRecDepth 20000 in
theorem ggX5_getBlock_X5_c : GoodIn wsX5_getBlock wsX5_c := goodIn_r _ [5] (by decide +kernel) (by decide +kernel)
set_option maxRecDepth 20000 in
theorem gX5_getBlock_X5_c : GoodIn wsX5_getBlock (va_wsS RX5 34 yX5_c wsX5_c) := goodIn_app (goodIn_of _ (by decide +kernel)) ggX5_getBlock_X5_c
set_option maxRecDepth 20000 in
theorem ggX5_getBlock_X5_blockFrom : GoodIn wsX5_getBlock wsX5_blockFrom := goodIn_r _ [9, 1, 10, 11, 12, 4, 13, 14, 15, 16, 17, 18, 19, 20, 21, 22, 23, 24, 25, 26, 27] (by decide +kernel) (by decide +kernel)
set_option maxRecDepth 20000 in
theorem gX5_getBlock_X5_blockFrom : GoodIn wsX5_getBlock (wsV RX5 46 RX5 yX5_blockFrom wsX5_blockFrom) := goodIn_app (goodIn_of _ (by decide +kernel)) ggX5_getBlock_X5_blockFrom
set_option maxRecDepth 20000 in
theorem ggX5_getBlock_X5_n : GoodIn wsX5_getBlock wsX5_n := goodIn_r _ [16] (by decide +kernel) (by decide +kernel)
set_option maxRecDepth 20000 in
theorem gX5_getBlock_X5_n : GoodIn wsX5_getBlock (va_wsS RX5 22 yX5_n wsX5_n) := goodIn_app (goodIn_of _ (by decide +kernel)) ggX5_getBlock_X5_n
theorem dX5_getBlock_0 : decode cX5_getBlock 0 = .ok (.iload_n 1, 1) := by decide +kernel
theorem dX5_getBlock_1 : decode cX5_getBlock 1 = .ok (.invokestatic 34, 3) := by decide +kernel
theorem dX5_getBlock_4 : decode cX5_getBlock 4 = .ok (.istore_n 2, 1) := by decide +kernel
theorem dX5_getBlock_5 : decode cX5_getBlock 5 = .ok (.aload_n 0, 1) := by decide +kernel
theorem dX5_getBlock_6 : decode cX5_getBlock 6 = .ok (.invokevirtual 46, 3) := by decide +kernel
theorem dX5_getBlock_9 : decode cX5_getBlock 9 = .ok (.istore_n 3, 1) := by decide +kernel
theorem dX5_getBlock_10 : decode cX5_getBlock 10 = .ok (.aload_n 0, 1) := by decide +kernel
theorem dX5_getBlock_11 : decode cX5_getBlock 11 = .ok (.getfield 7, 3) := by decide +kernel
theorem dX5_getBlock_14 : decode cX5_getBlock 14 = .ok (.iload_n 3, 1) := by decide +kernel
theorem dX5_getBlock_15 : decode cX5_getBlock 15 = .ok (.invokestatic 22, 3) := by decide +kernel
theorem dX5_getBlock_18 : decode cX5_getBlock 18 = .ok (.iconst 0, 1) := by decide +kernel
theorem dX5_getBlock_19 : decode cX5_getBlock 19 = .ok (.iadd, 1) := by decide +kernel
theorem dX5_getBlock_20 : decode cX5_getBlock 20 = .ok (.iaload, 1) := by decide +kernel
theorem dX5_getBlock_21 : decode cX5_getBlock 21 = .ok (.istore 4, 2) := by decide +kernel
theorem dX5_getBlock_23 : decode cX5_getBlock 23 = .ok (.iload_n 3, 1) := by decide +kernel
theorem dX5_getBlock_24 : decode cX5_getBlock 24 = .ok (.istore 5, 2) := by decide +kernel
theorem dX5_getBlock_26 : decode cX5_getBlock 26 = .ok (.iload 5, 2) := by decide +kernel
theorem dX5_getBlock_28 : decode cX5_getBlock 28 = .ok (.sipush 600, 3) := by decide +kernel
theorem dX5_getBlock_31 : decode cX5_getBlock 31 = .ok (.if_icmp .gt 65, 3) := by decide +kernel
theorem dX5_getBlock_34 : decode cX5_getBlock 34 = .ok (.iload 5, 2) := by decide +kernel
theorem dX5_getBlock_36 : decode cX5_getBlock 36 = .ok (.iload_n 3, 1) := by decide +kernel
theorem dX5_getBlock_37 : decode cX5_getBlock 37 = .ok (.isub, 1) := by decide +kernel
theorem dX5_getBlock_38 : decode cX5_getBlock 38 = .ok (.aload_n 0, 1) := by decide +kernel
theorem dX5_getBlock_39 : decode cX5_getBlock 39 = .ok (.getfield 7, 3) := by decide +kernel
theorem dX5_getBlock_42 : decode cX5_getBlock 42 = .ok (.iconst 0, 1) := by decide +kernel
theorem dX5_getBlock_43 : decode cX5_getBlock 43 = .ok (.iaload, 1) := by decide +kernel
theorem dX5_getBlock_44 : decode cX5_getBlock 44 = .ok (.if_icmp .ge 52, 3) := by decide +kernel
theorem dX5_getBlock_47 : decode cX5_getBlock 47 = .ok (.aload_n 0, 1) := by decide +kernel
theorem dX5_getBlock_48 : decode cX5_getBlock 48 = .ok (.getfield 7, 3) := by decide +kernel
theorem dX5_getBlock_51 : decode cX5_getBlock 51 = .ok (.iload 5, 2) := by decide +kernel
theorem dX5_getBlock_53 : decode cX5_getBlock 53 = .ok (.invokestatic 22, 3) := by decide +kernel
theorem dX5_getBlock_56 : decode cX5_getBlock 56 = .ok (.iconst 0, 1) := by decide +kernel
theorem dX5_getBlock_57 : decode cX5_getBlock 57 = .ok (.iadd, 1) := by decide +kernel
theorem dX5_getBlock_58 : decode cX5_getBlock 58 = .ok (.iaload, 1) := by decide +kernel
theorem dX5_getBlock_59 : decode cX5_getBlock 59 = .ok (.iload 4, 2) := by decide +kernel
theorem dX5_getBlock_61 : decode cX5_getBlock 61 = .ok (.if_icmp .ne 35, 3) := by decide +kernel
theorem dX5_getBlock_64 : decode cX5_getBlock 64 = .ok (.aload_n 0, 1) := by decide +kernel
theorem dX5_getBlock_65 : decode cX5_getBlock 65 = .ok (.getfield 7, 3) := by decide +kernel
theorem dX5_getBlock_68 : decode cX5_getBlock 68 = .ok (.iload 5, 2) := by decide +kernel
theorem dX5_getBlock_70 : decode cX5_getBlock 70 = .ok (.invokestatic 22, 3) := by decide +kernel
theorem dX5_getBlock_73 : decode cX5_getBlock 73 = .ok (.iconst 0, 1) := by decide +kernel
theorem dX5_getBlock_74 : decode cX5_getBlock 74 = .ok (.iadd, 1) := by decide +kernel
theorem dX5_getBlock_75 : decode cX5_getBlock 75 = .ok (.iconst 1, 1) := by decide +kernel
theorem dX5_getBlock_76 : decode cX5_getBlock 76 = .ok (.iastore, 1) := by decide +kernel
theorem dX5_getBlock_77 : decode cX5_getBlock 77 = .ok (.aload_n 0, 1) := by decide +kernel
theorem dX5_getBlock_78 : decode cX5_getBlock 78 = .ok (.getfield 7, 3) := by decide +kernel
theorem dX5_getBlock_81 : decode cX5_getBlock 81 = .ok (.iload 5, 2) := by decide +kernel
theorem dX5_getBlock_83 : decode cX5_getBlock 83 = .ok (.invokestatic 22, 3) := by decide +kernel
theorem dX5_getBlock_86 : decode cX5_getBlock 86 = .ok (.iconst 1, 1) := by decide +kernel
theorem dX5_getBlock_87 : decode cX5_getBlock 87 = .ok (.iadd, 1) := by decide +kernel
theorem dX5_getBlock_88 : decode cX5_getBlock 88 = .ok (.iload_n 1, 1) := by decide +kernel
theorem dX5_getBlock_89 : decode cX5_getBlock 89 = .ok (.iastore, 1) := by decide +kernel
theorem dX5_getBlock_90 : decode cX5_getBlock 90 = .ok (.iinc 5 1, 3) := by decide +kernel
theorem dX5_getBlock_93 : decode cX5_getBlock 93 = .ok (.goto (-67), 3) := by decide +kernel
theorem dX5_getBlock_96 : decode cX5_getBlock 96 = .ok (.aload_n 0, 1) := by decide +kernel
theorem dX5_getBlock_97 : decode cX5_getBlock 97 = .ok (.getfield 7, 3) := by decide +kernel
theorem dX5_getBlock_100 : decode cX5_getBlock 100 = .ok (.iload_n 2, 1) := by decide +kernel
theorem dX5_getBlock_101 : decode cX5_getBlock 101 = .ok (.iconst 1, 1) := by decide +kernel
theorem dX5_getBlock_102 : decode cX5_getBlock 102 = .ok (.iadd, 1) := by decide +kernel
theorem dX5_getBlock_103 : decode cX5_getBlock 103 = .ok (.iload_n 3, 1) := by decide +kernel
theorem dX5_getBlock_104 : decode cX5_getBlock 104 = .ok (.iastore, 1) := by decide +kernel
theorem dX5_getBlock_105 : decode cX5_getBlock 105 = .ok (.aload_n 0, 1) := by decide +kernel
theorem dX5_getBlock_106 : decode cX5_getBlock 106 = .ok (.getfield 7, 3) := by decide +kernel
theorem dX5_getBlock_109 : decode cX5_getBlock 109 = .ok (.iload_n 2, 1) := by decide +kernel
theorem dX5_getBlock_110 : decode cX5_getBlock 110 = .ok (.iconst 2, 1) := by decide +kernel
theorem dX5_getBlock_111 : decode cX5_getBlock 111 = .ok (.iadd, 1) := by decide +kernel
theorem dX5_getBlock_112 : decode cX5_getBlock 112 = .ok (.iload 5, 2) := by decide +kernel
theorem dX5_getBlock_114 : decode cX5_getBlock 114 = .ok (.iconst 1, 1) := by decide +kernel
theorem dX5_getBlock_115 : decode cX5_getBlock 115 = .ok (.isub, 1) := by decide +kernel
theorem dX5_getBlock_116 : decode cX5_getBlock 116 = .ok (.iastore, 1) := by decide +kernel
theorem dX5_getBlock_117 : decode cX5_getBlock 117 = .ok (.aload_n 0, 1) := by decide +kernel
theorem dX5_getBlock_118 : decode cX5_getBlock 118 = .ok (.getfield 7, 3) := by decide +kernel
theorem dX5_getBlock_121 : decode cX5_getBlock 121 = .ok (.iload_n 2, 1) := by decide +kernel
theorem dX5_getBlock_122 : decode cX5_getBlock 122 = .ok (.iconst 3, 1) := by decide +kernel
theorem dX5_getBlock_123 : decode cX5_getBlock 123 = .ok (.iadd, 1) := by decide +kernel
theorem dX5_getBlock_124 : decode cX5_getBlock 124 = .ok (.aload_n 0, 1) := by decide +kernel
theorem dX5_getBlock_125 : decode cX5_getBlock 125 = .ok (.getfield 7, 3) := by decide +kernel
theorem dX5_getBlock_128 : decode cX5_getBlock 128 = .ok (.iload_n 2, 1) := by decide +kernel
theorem dX5_getBlock_129 : decode cX5_getBlock 129 = .ok (.iconst 0, 1) := by decide +kernel
theorem dX5_getBlock_130 : decode cX5_getBlock 130 = .ok (.iadd, 1) := by decide +kernel
theorem dX5_getBlock_131 : decode cX5_getBlock 131 = .ok (.iaload, 1) := by decide +kernel
theorem dX5_getBlock_132 : decode cX5_getBlock 132 = .ok (.iconst 2, 1) := by decide +kernel
theorem dX5_getBlock_133 : decode cX5_getBlock 133 = .ok (.if_icmp .ne 10, 3) := by decide +kernel
theorem dX5_getBlock_136 : decode cX5_getBlock 136 = .ok (.iload 5, 2) := by decide +kernel
theorem dX5_getBlock_138 : decode cX5_getBlock 138 = .ok (.iconst 1, 1) := by decide +kernel
theorem dX5_getBlock_139 : decode cX5_getBlock 139 = .ok (.isub, 1) := by decide +kernel
theorem dX5_getBlock_140 : decode cX5_getBlock 140 = .ok (.goto 6, 3) := by decide +kernel
theorem dX5_getBlock_143 : decode cX5_getBlock 143 = .ok (.iload_n 3, 1) := by decide +kernel
theorem dX5_getBlock_144 : decode cX5_getBlock 144 = .ok (.iconst 1, 1) := by decide +kernel
theorem dX5_getBlock_145 : decode cX5_getBlock 145 = .ok (.isub, 1) := by decide +kernel
theorem dX5_getBlock_146 : decode cX5_getBlock 146 = .ok (.iastore, 1) := by decide +kernel
theorem dX5_getBlock_147 : decode cX5_getBlock 147 = .ok (.aload_n 0, 1) := by decide +kernel
theorem dX5_getBlock_148 : decode cX5_getBlock 148 = .ok (.getfield 7, 3) := by decide +kernel
theorem dX5_getBlock_151 : decode cX5_getBlock 151 = .ok (.iload_n 2, 1) := by decide +kernel
theorem dX5_getBlock_152 : decode cX5_getBlock 152 = .ok (.iconst 5, 1) := by decide +kernel
theorem dX5_getBlock_153 : decode cX5_getBlock 153 = .ok (.iadd, 1) := by decide +kernel
theorem dX5_getBlock_154 : decode cX5_getBlock 154 = .ok (.dup2, 1) := by decide +kernel
theorem dX5_getBlock_155 : decode cX5_getBlock 155 = .ok (.iaload, 1) := by decide +kernel
theorem dX5_getBlock_156 : decode cX5_getBlock 156 = .ok (.iconst 1, 1) := by decide +kernel
theorem dX5_getBlock_157 : decode cX5_getBlock 157 = .ok (.iadd, 1) := by decide +kernel
theorem dX5_getBlock_158 : decode cX5_getBlock 158 = .ok (.iastore, 1) := by decide +kernel
theorem dX5_getBlock_159 : decode cX5_getBlock 159 = .ok (.return_, 1) := by decide +kernel
set_option maxRecDepth 20000 in
theorem ggX5_giveOne_X5_c : GoodIn wsX5_giveOne wsX5_c := goodIn_r _ [5] (by decide +kernel) (by decide +kernel)
set_option maxRecDepth 20000 in
theorem gX5_giveOne_X5_c : GoodIn wsX5_giveOne (va_wsS RX5 34 yX5_c wsX5_c) := goodIn_app (goodIn_of _ (by decide +kernel)) ggX5_giveOne_X5_c
set_option maxRecDepth 20000 in
theorem ggX5_giveOne_X5_holds : GoodIn wsX5_giveOne wsX5_holds := goodIn_r _ [9, 1, 2, 3, 4, 5, 25, 26, 27, 28, 29, 30, 31, 32, 33, 34, 35] (by decide +kernel) (by decide +kernel)
set_option maxRecDepth 20000 in
theorem gX5_giveOne_X5_holds : GoodIn wsX5_giveOne (wsV RX5 50 RX5 yX5_holds wsX5_holds) := goodIn_app (goodIn_of _ (by decide +kernel)) ggX5_giveOne_X5_holds
set_option maxRecDepth 20000 in
theorem ggX5_giveOne_X5_getBlock : GoodIn wsX5_giveOne wsX5_getBlock := goodIn_r _ [13, 1, 2, 3, 4, 5, 14, 15, 16, 17, 18, 19, 20, 21, 22, 23, 24, 25, 26, 27, 28, 29, 30, 31, 32, 33, 34, 35] (by decide +kernel) (by decide +kernel)
set_option maxRecDepth 20000 in
theorem gX5_giveOne_X5_getBlock : GoodIn wsX5_giveOne (wsV RX5 53 RX5 yX5_getBlock wsX5_getBlock) := goodIn_app (goodIn_of _ (by decide +kernel)) ggX5_giveOne_X5_getBlock
set_option maxRecDepth 20000 in
theorem ggX5_giveOne_X5_n : GoodIn wsX5_giveOne wsX5_n := goodIn_r _ [24] (by decide +kernel) (by decide +kernel)
set_option maxRecDepth 20000 in
theorem gX5_giveOne_X5_n : GoodIn wsX5_giveOne (va_wsS RX5 22 yX5_n wsX5_n) := goodIn_app (goodIn_of _ (by decide +kernel)) ggX5_giveOne_X5_n
theorem dX5_giveOne_0 : decode cX5_giveOne 0 = .ok (.iload_n 1, 1) := by decide +kernel
theorem dX5_giveOne_1 : decode cX5_giveOne 1 = .ok (.invokestatic 34, 3) := by decide +kernel
theorem dX5_giveOne_4 : decode cX5_giveOne 4 = .ok (.istore_n 2, 1) := by decide +kernel
theorem dX5_giveOne_5 : decode cX5_giveOne 5 = .ok (.aload_n 0, 1) := by decide +kernel
theorem dX5_giveOne_6 : decode cX5_giveOne 6 = .ok (.iload_n 1, 1) := by decide +kernel
theorem dX5_giveOne_7 : decode cX5_giveOne 7 = .ok (.invokevirtual 50, 3) := by decide +kernel
theorem dX5_giveOne_10 : decode cX5_giveOne 10 = .ok (.ifCond .ne 8, 3) := by decide +kernel
theorem dX5_giveOne_13 : decode cX5_giveOne 13 = .ok (.aload_n 0, 1) := by decide +kernel
theorem dX5_giveOne_14 : decode cX5_giveOne 14 = .ok (.iload_n 1, 1) := by decide +kernel
theorem dX5_giveOne_15 : decode cX5_giveOne 15 = .ok (.invokevirtual 53, 3) := by decide +kernel
theorem dX5_giveOne_18 : decode cX5_giveOne 18 = .ok (.aload_n 0, 1) := by decide +kernel
theorem dX5_giveOne_19 : decode cX5_giveOne 19 = .ok (.getfield 7, 3) := by decide +kernel
theorem dX5_giveOne_22 : decode cX5_giveOne 22 = .ok (.iload_n 2, 1) := by decide +kernel
theorem dX5_giveOne_23 : decode cX5_giveOne 23 = .ok (.iconst 1, 1) := by decide +kernel
theorem dX5_giveOne_24 : decode cX5_giveOne 24 = .ok (.iadd, 1) := by decide +kernel
theorem dX5_giveOne_25 : decode cX5_giveOne 25 = .ok (.iaload, 1) := by decide +kernel
theorem dX5_giveOne_26 : decode cX5_giveOne 26 = .ok (.istore_n 3, 1) := by decide +kernel
theorem dX5_giveOne_27 : decode cX5_giveOne 27 = .ok (.aload_n 0, 1) := by decide +kernel
theorem dX5_giveOne_28 : decode cX5_giveOne 28 = .ok (.getfield 7, 3) := by decide +kernel
theorem dX5_giveOne_31 : decode cX5_giveOne 31 = .ok (.iload_n 2, 1) := by decide +kernel
theorem dX5_giveOne_32 : decode cX5_giveOne 32 = .ok (.iconst 1, 1) := by decide +kernel
theorem dX5_giveOne_33 : decode cX5_giveOne 33 = .ok (.iadd, 1) := by decide +kernel
theorem dX5_giveOne_34 : decode cX5_giveOne 34 = .ok (.dup2, 1) := by decide +kernel
theorem dX5_giveOne_35 : decode cX5_giveOne 35 = .ok (.iaload, 1) := by decide +kernel
theorem dX5_giveOne_36 : decode cX5_giveOne 36 = .ok (.iconst 1, 1) := by decide +kernel
theorem dX5_giveOne_37 : decode cX5_giveOne 37 = .ok (.iadd, 1) := by decide +kernel
theorem dX5_giveOne_38 : decode cX5_giveOne 38 = .ok (.iastore, 1) := by decide +kernel
theorem dX5_giveOne_39 : decode cX5_giveOne 39 = .ok (.aload_n 0, 1) := by decide +kernel
theorem dX5_giveOne_40 : decode cX5_giveOne 40 = .ok (.getfield 7, 3) := by decide +kernel
theorem dX5_giveOne_43 : decode cX5_giveOne 43 = .ok (.iload_n 3, 1) := by decide +kernel
theorem dX5_giveOne_44 : decode cX5_giveOne 44 = .ok (.invokestatic 22, 3) := by decide +kernel
theorem dX5_giveOne_47 : decode cX5_giveOne 47 = .ok (.iconst 0, 1) := by decide +kernel
theorem dX5_giveOne_48 : decode cX5_giveOne 48 = .ok (.iadd, 1) := by decide +kernel
theorem dX5_giveOne_49 : decode cX5_giveOne 49 = .ok (.iconst 2, 1) := by decide +kernel
theorem dX5_giveOne_50 : decode cX5_giveOne 50 = .ok (.iastore, 1) := by decide +kernel
theorem dX5_giveOne_51 : decode cX5_giveOne 51 = .ok (.aload_n 0, 1) := by decide +kernel
theorem dX5_giveOne_52 : decode cX5_giveOne 52 = .ok (.getfield 7, 3) := by decide +kernel
theorem dX5_giveOne_55 : decode cX5_giveOne 55 = .ok (.iload_n 3, 1) := by decide +kernel
theorem dX5_giveOne_56 : decode cX5_giveOne 56 = .ok (.invokestatic 22, 3) := by decide +kernel
theorem dX5_giveOne_59 : decode cX5_giveOne 59 = .ok (.iconst 2, 1) := by decide +kernel
theorem dX5_giveOne_60 : decode cX5_giveOne 60 = .ok (.iadd, 1) := by decide +kernel
theorem dX5_giveOne_61 : decode cX5_giveOne 61 = .ok (.aload_n 0, 1) := by decide +kernel
theorem dX5_giveOne_62 : decode cX5_giveOne 62 = .ok (.getfield 7, 3) := by decide +kernel
theorem dX5_giveOne_65 : decode cX5_giveOne 65 = .ok (.iconst 5, 1) := by decide +kernel
theorem dX5_giveOne_66 : decode cX5_giveOne 66 = .ok (.iaload, 1) := by decide +kernel
theorem dX5_giveOne_67 : decode cX5_giveOne 67 = .ok (.iastore, 1) := by decide +kernel
theorem dX5_giveOne_68 : decode cX5_giveOne 68 = .ok (.aload_n 0, 1) := by decide +kernel
theorem dX5_giveOne_69 : decode cX5_giveOne 69 = .ok (.getfield 7, 3) := by decide +kernel
theorem dX5_giveOne_72 : decode cX5_giveOne 72 = .ok (.iload_n 3, 1) := by decide +kernel
theorem dX5_giveOne_73 : decode cX5_giveOne 73 = .ok (.invokestatic 22, 3) := by decide +kernel
theorem dX5_giveOne_76 : decode cX5_giveOne 76 = .ok (.iconst 3, 1) := by decide +kernel
theorem dX5_giveOne_77 : decode cX5_giveOne 77 = .ok (.iadd, 1) := by decide +kernel
theorem dX5_giveOne_78 : decode cX5_giveOne 78 = .ok (.aload_n 0, 1) := by decide +kernel
theorem dX5_giveOne_79 : decode cX5_giveOne 79 = .ok (.getfield 7, 3) := by decide +kernel
theorem dX5_giveOne_82 : decode cX5_giveOne 82 = .ok (.iconst 4, 1) := by decide +kernel
theorem dX5_giveOne_83 : decode cX5_giveOne 83 = .ok (.iaload, 1) := by decide +kernel
theorem dX5_giveOne_84 : decode cX5_giveOne 84 = .ok (.iastore, 1) := by decide +kernel
theorem dX5_giveOne_85 : decode cX5_giveOne 85 = .ok (.aload_n 0, 1) := by decide +kernel
theorem dX5_giveOne_86 : decode cX5_giveOne 86 = .ok (.getfield 7, 3) := by decide +kernel
theorem dX5_giveOne_89 : decode cX5_giveOne 89 = .ok (.iconst 5, 1) := by decide +kernel
theorem dX5_giveOne_90 : decode cX5_giveOne 90 = .ok (.dup2, 1) := by decide +kernel
theorem dX5_giveOne_91 : decode cX5_giveOne 91 = .ok (.iaload, 1) := by decide +kernel
theorem dX5_giveOne_92 : decode cX5_giveOne 92 = .ok (.iconst 1, 1) := by decide +kernel
theorem dX5_giveOne_93 : decode cX5_giveOne 93 = .ok (.iadd, 1) := by decide +kernel
theorem dX5_giveOne_94 : decode cX5_giveOne 94 = .ok (.iastore, 1) := by decide +kernel
theorem dX5_giveOne_95 : decode cX5_giveOne 95 = .ok (.aload_n 0, 1) := by decide +kernel
theorem dX5_giveOne_96 : decode cX5_giveOne 96 = .ok (.getfield 7, 3) := by decide +kernel
theorem dX5_giveOne_99 : decode cX5_giveOne 99 = .ok (.iload_n 2, 1) := by decide +kernel
theorem dX5_giveOne_100 : decode cX5_giveOne 100 = .ok (.iconst 4, 1) := by decide +kernel
theorem dX5_giveOne_101 : decode cX5_giveOne 101 = .ok (.iadd, 1) := by decide +kernel
theorem dX5_giveOne_102 : decode cX5_giveOne 102 = .ok (.dup2, 1) := by decide +kernel
theorem dX5_giveOne_103 : decode cX5_giveOne 103 = .ok (.iaload, 1) := by decide +kernel
theorem dX5_giveOne_104 : decode cX5_giveOne 104 = .ok (.iconst 1, 1) := by decide +kernel
theorem dX5_giveOne_105 : decode cX5_giveOne 105 = .ok (.iadd, 1) := by decide +kernel
theorem dX5_giveOne_106 : decode cX5_giveOne 106 = .ok (.iastore, 1) := by decide +kernel
theorem dX5_giveOne_107 : decode cX5_giveOne 107 = .ok (.aload_n 0, 1) := by decide +kernel
theorem dX5_giveOne_108 : decode cX5_giveOne 108 = .ok (.getfield 7, 3) := by decide +kernel
theorem dX5_giveOne_111 : decode cX5_giveOne 111 = .ok (.iload_n 2, 1) := by decide +kernel
theorem dX5_giveOne_112 : decode cX5_giveOne 112 = .ok (.bipush 6, 2) := by decide +kernel
theorem dX5_giveOne_114 : decode cX5_giveOne 114 = .ok (.iadd, 1) := by decide +kernel
theorem dX5_giveOne_115 : decode cX5_giveOne 115 = .ok (.iload_n 3, 1) := by decide +kernel
theorem dX5_giveOne_116 : decode cX5_giveOne 116 = .ok (.iastore, 1) := by decide +kernel
theorem dX5_giveOne_117 : decode cX5_giveOne 117 = .ok (.aload_n 0, 1) := by decide +kernel
theorem dX5_giveOne_118 : decode cX5_giveOne 118 = .ok (.getfield 7, 3) := by decide +kernel
theorem dX5_giveOne_121 : decode cX5_giveOne 121 = .ok (.iload_n 2, 1) := by decide +kernel
theorem dX5_giveOne_122 : decode cX5_giveOne 122 = .ok (.iconst 0, 1) := by decide +kernel
theorem dX5_giveOne_123 : decode cX5_giveOne 123 = .ok (.iadd, 1) := by decide +kernel
theorem dX5_giveOne_124 : decode cX5_giveOne 124 = .ok (.iaload, 1) := by decide +kernel
theorem dX5_giveOne_125 : decode cX5_giveOne 125 = .ok (.ifCond .ne 15, 3) := by decide +kernel
theorem dX5_giveOne_128 : decode cX5_giveOne 128 = .ok (.aload_n 0, 1) := by decide +kernel
theorem dX5_giveOne_129 : decode cX5_giveOne 129 = .ok (.getfield 7, 3) := by decide +kernel
theorem dX5_giveOne_132 : decode cX5_giveOne 132 = .ok (.iload_n 2, 1) := by decide +kernel
theorem dX5_giveOne_133 : decode cX5_giveOne 133 = .ok (.iconst 3, 1) := by decide +kernel
theorem dX5_giveOne_134 : decode cX5_giveOne 134 = .ok (.iadd, 1) := by decide +kernel
theorem dX5_giveOne_135 : decode cX5_giveOne 135 = .ok (.iload_n 3, 1) := by decide +kernel
theorem dX5_giveOne_136 : decode cX5_giveOne 136 = .ok (.iastore, 1) := by decide +kernel
theorem dX5_giveOne_137 : decode cX5_giveOne 137 = .ok (.goto 73, 3) := by decide +kernel
theorem dX5_giveOne_140 : decode cX5_giveOne 140 = .ok (.aload_n 0, 1) := by decide +kernel
theorem dX5_giveOne_141 : decode cX5_giveOne 141 = .ok (.getfield 7, 3) := by decide +kernel
theorem dX5_giveOne_144 : decode cX5_giveOne 144 = .ok (.iload_n 2, 1) := by decide +kernel
theorem dX5_giveOne_145 : decode cX5_giveOne 145 = .ok (.iconst 0, 1) := by decide +kernel
theorem dX5_giveOne_146 : decode cX5_giveOne 146 = .ok (.iadd, 1) := by decide +kernel
theorem dX5_giveOne_147 : decode cX5_giveOne 147 = .ok (.iaload, 1) := by decide +kernel
theorem dX5_giveOne_148 : decode cX5_giveOne 148 = .ok (.iconst 1, 1) := by decide +kernel
theorem dX5_giveOne_149 : decode cX5_giveOne 149 = .ok (.if_icmp .ne 61, 3) := by decide +kernel
theorem dX5_giveOne_152 : decode cX5_giveOne 152 = .ok (.iload_n 3, 1) := by decide +kernel
theorem dX5_giveOne_153 : decode cX5_giveOne 153 = .ok (.aload_n 0, 1) := by decide +kernel
theorem dX5_giveOne_154 : decode cX5_giveOne 154 = .ok (.getfield 7, 3) := by decide +kernel
theorem dX5_giveOne_157 : decode cX5_giveOne 157 = .ok (.iload_n 2, 1) := by decide +kernel
theorem dX5_giveOne_158 : decode cX5_giveOne 158 = .ok (.iconst 3, 1) := by decide +kernel
theorem dX5_giveOne_159 : decode cX5_giveOne 159 = .ok (.iadd, 1) := by decide +kernel
theorem dX5_giveOne_160 : decode cX5_giveOne 160 = .ok (.iaload, 1) := by decide +kernel
theorem dX5_giveOne_161 : decode cX5_giveOne 161 = .ok (.if_icmp .le 49, 3) := by decide +kernel
theorem dX5_giveOne_164 : decode cX5_giveOne 164 = .ok (.iload_n 3, 1) := by decide +kernel
theorem dX5_giveOne_165 : decode cX5_giveOne 165 = .ok (.aload_n 0, 1) := by decide +kernel
theorem dX5_giveOne_166 : decode cX5_giveOne 166 = .ok (.getfield 7, 3) := by decide +kernel
theorem dX5_giveOne_169 : decode cX5_giveOne 169 = .ok (.iconst 2, 1) := by decide +kernel
theorem dX5_giveOne_170 : decode cX5_giveOne 170 = .ok (.iaload, 1) := by decide +kernel
theorem dX5_giveOne_171 : decode cX5_giveOne 171 = .ok (.iadd, 1) := by decide +kernel
theorem dX5_giveOne_172 : decode cX5_giveOne 172 = .ok (.iconst 1, 1) := by decide +kernel
theorem dX5_giveOne_173 : decode cX5_giveOne 173 = .ok (.isub, 1) := by decide +kernel
theorem dX5_giveOne_174 : decode cX5_giveOne 174 = .ok (.istore 4, 2) := by decide +kernel
theorem dX5_giveOne_176 : decode cX5_giveOne 176 = .ok (.aload_n 0, 1) := by decide +kernel
theorem dX5_giveOne_177 : decode cX5_giveOne 177 = .ok (.getfield 7, 3) := by decide +kernel
theorem dX5_giveOne_180 : decode cX5_giveOne 180 = .ok (.iload_n 2, 1) := by decide +kernel
theorem dX5_giveOne_181 : decode cX5_giveOne 181 = .ok (.iconst 3, 1) := by decide +kernel
theorem dX5_giveOne_182 : decode cX5_giveOne 182 = .ok (.iadd, 1) := by decide +kernel
theorem dX5_giveOne_183 : decode cX5_giveOne 183 = .ok (.iload 4, 2) := by decide +kernel
theorem dX5_giveOne_185 : decode cX5_giveOne 185 = .ok (.aload_n 0, 1) := by decide +kernel
theorem dX5_giveOne_186 : decode cX5_giveOne 186 = .ok (.getfield 7, 3) := by decide +kernel
theorem dX5_giveOne_189 : decode cX5_giveOne 189 = .ok (.iload_n 2, 1) := by decide +kernel
theorem dX5_giveOne_190 : decode cX5_giveOne 190 = .ok (.iconst 2, 1) := by decide +kernel
theorem dX5_giveOne_191 : decode cX5_giveOne 191 = .ok (.iadd, 1) := by decide +kernel
theorem dX5_giveOne_192 : decode cX5_giveOne 192 = .ok (.iaload, 1) := by decide +kernel
theorem dX5_giveOne_193 : decode cX5_giveOne 193 = .ok (.if_icmp .ge 8, 3) := by decide +kernel
theorem dX5_giveOne_196 : decode cX5_giveOne 196 = .ok (.iload 4, 2) := by decide +kernel
theorem dX5_giveOne_198 : decode cX5_giveOne 198 = .ok (.goto 11, 3) := by decide +kernel
theorem dX5_giveOne_201 : decode cX5_giveOne 201 = .ok (.aload_n 0, 1) := by decide +kernel
theorem dX5_giveOne_202 : decode cX5_giveOne 202 = .ok (.getfield 7, 3) := by decide +kernel
theorem dX5_giveOne_205 : decode cX5_giveOne 205 = .ok (.iload_n 2, 1) := by decide +kernel
theorem dX5_giveOne_206 : decode cX5_giveOne 206 = .ok (.iconst 2, 1) := by decide +kernel
theorem dX5_giveOne_207 : decode cX5_giveOne 207 = .ok (.iadd, 1) := by decide +kernel
theorem dX5_giveOne_208 : decode cX5_giveOne 208 = .ok (.iaload, 1) := by decide +kernel
theorem dX5_giveOne_209 : decode cX5_giveOne 209 = .ok (.iastore, 1) := by decide +kernel
theorem dX5_giveOne_210 : decode cX5_giveOne 210 = .ok (.return_, 1) := by decide +kernel
set_option maxRecDepth 20000 in
theorem ggX5_canAsk_X5_holds : GoodIn wsX5_canAsk wsX5_holds := goodIn_r _ [6, 1, 7, 8, 5, 9, 17, 18, 19, 20, 21, 22, 23, 24, 25, 26, 27] (by decide +kernel) (by decide +kernel)
set_option maxRecDepth 20000 in
theorem gX5_canAsk_X5_holds : GoodIn wsX5_canAsk (wsV RX5 50 RX5 yX5_holds wsX5_holds) := goodIn_app (goodIn_of _ (by decide +kernel)) ggX5_canAsk_X5_holds
set_option maxRecDepth 20000 in
theorem ggX5_canAsk_X5_many : GoodIn wsX5_canAsk wsX5_many := goodIn_r _ [13, 1, 14, 15, 5, 16, 17, 18, 19, 20, 21, 22, 23, 24, 25, 26, 27] (by decide +kernel) (by decide +kernel)
set_option maxRecDepth 20000 in
theorem gX5_canAsk_X5_many : GoodIn wsX5_canAsk (wsV RX5 57 RX5 yX5_many wsX5_many) := goodIn_app (goodIn_of _ (by decide +kernel)) ggX5_canAsk_X5_many
theorem dX5_canAsk_0 : decode cX5_canAsk 0 = .ok (.iload_n 2, 1) := by decide +kernel
theorem dX5_canAsk_1 : decode cX5_canAsk 1 = .ok (.aload_n 0, 1) := by decide +kernel
theorem dX5_canAsk_2 : decode cX5_canAsk 2 = .ok (.iload_n 1, 1) := by decide +kernel
theorem dX5_canAsk_3 : decode cX5_canAsk 3 = .ok (.invokevirtual 50, 3) := by decide +kernel
theorem dX5_canAsk_6 : decode cX5_canAsk 6 = .ok (.aload_n 0, 1) := by decide +kernel
theorem dX5_canAsk_7 : decode cX5_canAsk 7 = .ok (.iconst 0, 1) := by decide +kernel
theorem dX5_canAsk_8 : decode cX5_canAsk 8 = .ok (.invokevirtual 57, 3) := by decide +kernel
theorem dX5_canAsk_11 : decode cX5_canAsk 11 = .ok (.iadd, 1) := by decide +kernel
theorem dX5_canAsk_12 : decode cX5_canAsk 12 = .ok (.aload_n 0, 1) := by decide +kernel
theorem dX5_canAsk_13 : decode cX5_canAsk 13 = .ok (.getfield 7, 3) := by decide +kernel
theorem dX5_canAsk_16 : decode cX5_canAsk 16 = .ok (.iconst 1, 1) := by decide +kernel
theorem dX5_canAsk_17 : decode cX5_canAsk 17 = .ok (.iaload, 1) := by decide +kernel
theorem dX5_canAsk_18 : decode cX5_canAsk 18 = .ok (.iconst 1, 1) := by decide +kernel
theorem dX5_canAsk_19 : decode cX5_canAsk 19 = .ok (.if_icmp .ne 11, 3) := by decide +kernel
theorem dX5_canAsk_22 : decode cX5_canAsk 22 = .ok (.aload_n 0, 1) := by decide +kernel
theorem dX5_canAsk_23 : decode cX5_canAsk 23 = .ok (.iconst 3, 1) := by decide +kernel
theorem dX5_canAsk_24 : decode cX5_canAsk 24 = .ok (.invokevirtual 57, 3) := by decide +kernel
theorem dX5_canAsk_27 : decode cX5_canAsk 27 = .ok (.goto 4, 3) := by decide +kernel
theorem dX5_canAsk_30 : decode cX5_canAsk 30 = .ok (.iconst 0, 1) := by decide +kernel
theorem dX5_canAsk_31 : decode cX5_canAsk 31 = .ok (.iadd, 1) := by decide +kernel
theorem dX5_canAsk_32 : decode cX5_canAsk 32 = .ok (.if_icmp .gt 7, 3) := by decide +kernel
theorem dX5_canAsk_35 : decode cX5_canAsk 35 = .ok (.iconst 1, 1) := by decide +kernel
theorem dX5_canAsk_36 : decode cX5_canAsk 36 = .ok (.goto 4, 3) := by decide +kernel
theorem dX5_canAsk_39 : decode cX5_canAsk 39 = .ok (.iconst 0, 1) := by decide +kernel
theorem dX5_canAsk_40 : decode cX5_canAsk 40 = .ok (.ireturn, 1) := by decide +kernel
set_option maxRecDepth 20000 in
theorem ggX5_goAsk_X5_giveOne : GoodIn wsX5_goAsk wsX5_giveOne := goodIn_r _ [6, 1, 7, 8, 5, 9, 10, 11, 12, 13, 14, 15, 16, 17, 18, 19, 20, 21, 22, 23, 24, 25, 26, 27, 28, 29, 30, 31, 32, 33, 34, 35, 36, 37, 38, 39] (by decide +kernel) (by decide +kernel)
set_option maxRecDepth 20000 in
theorem gX5_goAsk_X5_giveOne : GoodIn wsX5_goAsk (wsV RX5 60 RX5 yX5_giveOne wsX5_giveOne) := goodIn_app (goodIn_of _ (by decide +kernel)) ggX5_goAsk_X5_giveOne
set_option maxRecDepth 20000 in
theorem ggX5_goAsk_X5_c : GoodIn wsX5_goAsk wsX5_c := goodIn_r _ [9] (by decide +kernel) (by decide +kernel)
set_option maxRecDepth 20000 in
theorem gX5_goAsk_X5_c : GoodIn wsX5_goAsk (va_wsS RX5 34 yX5_c wsX5_c) := goodIn_app (goodIn_of _ (by decide +kernel)) ggX5_goAsk_X5_c
theorem dX5_goAsk_0 : decode cX5_goAsk 0 = .ok (.iconst 0, 1) := by decide +kernel
theorem dX5_goAsk_1 : decode cX5_goAsk 1 = .ok (.istore_n 3, 1) := by decide +kernel
theorem dX5_goAsk_2 : decode cX5_goAsk 2 = .ok (.iload_n 3, 1) := by decide +kernel
theorem dX5_goAsk_3 : decode cX5_goAsk 3 = .ok (.iload_n 2, 1) := by decide +kernel
theorem dX5_goAsk_4 : decode cX5_goAsk 4 = .ok (.if_icmp .ge 14, 3) := by decide +kernel
theorem dX5_goAsk_7 : decode cX5_goAsk 7 = .ok (.aload_n 0, 1) := by decide +kernel
theorem dX5_goAsk_8 : decode cX5_goAsk 8 = .ok (.iload_n 1, 1) := by decide +kernel
theorem dX5_goAsk_9 : decode cX5_goAsk 9 = .ok (.invokevirtual 60, 3) := by decide +kernel
theorem dX5_goAsk_12 : decode cX5_goAsk 12 = .ok (.iinc 3 1, 3) := by decide +kernel
theorem dX5_goAsk_15 : decode cX5_goAsk 15 = .ok (.goto (-13), 3) := by decide +kernel
theorem dX5_goAsk_18 : decode cX5_goAsk 18 = .ok (.aload_n 0, 1) := by decide +kernel
theorem dX5_goAsk_19 : decode cX5_goAsk 19 = .ok (.getfield 7, 3) := by decide +kernel
theorem dX5_goAsk_22 : decode cX5_goAsk 22 = .ok (.iload_n 1, 1) := by decide +kernel
theorem dX5_goAsk_23 : decode cX5_goAsk 23 = .ok (.invokestatic 34, 3) := by decide +kernel
theorem dX5_goAsk_26 : decode cX5_goAsk 26 = .ok (.bipush 6, 2) := by decide +kernel
theorem dX5_goAsk_28 : decode cX5_goAsk 28 = .ok (.iadd, 1) := by decide +kernel
theorem dX5_goAsk_29 : decode cX5_goAsk 29 = .ok (.iaload, 1) := by decide +kernel
theorem dX5_goAsk_30 : decode cX5_goAsk 30 = .ok (.ireturn, 1) := by decide +kernel
set_option maxRecDepth 20000 in
theorem ggX5_ask_X5_isClerk : GoodIn wsX5_ask wsX5_isClerk := goodIn_r _ [5, 6, 7, 8, 4, 9, 54, 55, 56, 57, 58, 59, 60, 61, 62, 63, 64] (by decide +kernel) (by decide +kernel)
set_option maxRecDepth 20000 in
theorem gX5_ask_X5_isClerk : GoodIn wsX5_ask (wsV RX5 63 RX5 yX5_isClerk wsX5_isClerk) := goodIn_app (goodIn_of _ (by decide +kernel)) ggX5_ask_X5_isClerk
set_option maxRecDepth 20000 in
theorem ggX5_ask_X5_in : GoodIn wsX5_ask wsX5_in := goodIn_r _ [9] (by decide +kernel) (by decide +kernel)
set_option maxRecDepth 20000 in
theorem gX5_ask_X5_in : GoodIn wsX5_ask (va_wsS RX5 30 yX5_in wsX5_in) := goodIn_app (goodIn_of _ (by decide +kernel)) ggX5_ask_X5_in
set_option maxRecDepth 20000 in
theorem ggX5_ask_X5_canAsk : GoodIn wsX5_ask wsX5_canAsk := goodIn_r _ [13, 6, 14, 15, 16, 4, 17, 18, 19, 20, 21, 22, 23, 24, 25, 26, 27, 54, 55, 56, 57, 58, 59, 60, 61, 62, 63, 64] (by decide +kernel) (by decide +kernel)
set_option maxRecDepth 20000 in
theorem gX5_ask_X5_canAsk : GoodIn wsX5_ask (wsV RX5 67 RX5 yX5_canAsk wsX5_canAsk) := goodIn_app (goodIn_of _ (by decide +kernel)) ggX5_ask_X5_canAsk
set_option maxRecDepth 20000 in
theorem ggX5_ask_X5_record : GoodIn wsX5_ask wsX5_record := goodIn_r _ [31, 32, 33, 6, 54, 55, 56, 57, 58, 59, 60, 61, 62, 63, 64] (by decide +kernel) (by decide +kernel)
set_option maxRecDepth 20000 in
theorem gX5_ask_X5_record : GoodIn wsX5_ask (wsV RX5 37 RX5 yX5_record wsX5_record) := goodIn_app (goodIn_of _ (by decide +kernel)) ggX5_ask_X5_record
set_option maxRecDepth 20000 in
theorem ggX5_ask_X5_goAsk : GoodIn wsX5_ask wsX5_goAsk := goodIn_r _ [37, 6, 38, 39, 40, 4, 41, 18, 19, 20, 14, 15, 16, 17, 42, 43, 44, 45, 46, 47, 48, 49, 50, 51, 52, 53, 25, 26, 27, 54, 55, 56, 57, 58, 59, 60, 61, 62, 63, 64] (by decide +kernel) (by decide +kernel)
set_option maxRecDepth 20000 in
theorem gX5_ask_X5_goAsk : GoodIn wsX5_ask (wsV RX5 71 RX5 yX5_goAsk wsX5_goAsk) := goodIn_app (goodIn_of _ (by decide +kernel)) ggX5_ask_X5_goAsk
theorem dX5_ask_0 : decode cX5_ask 0 = .ok (.aload_n 0, 1) := by decide +kernel
theorem dX5_ask_1 : decode cX5_ask 1 = .ok (.iload_n 1, 1) := by decide +kernel
theorem dX5_ask_2 : decode cX5_ask 2 = .ok (.invokevirtual 63, 3) := by decide +kernel
theorem dX5_ask_5 : decode cX5_ask 5 = .ok (.ifCond .eq 13, 3) := by decide +kernel
theorem dX5_ask_8 : decode cX5_ask 8 = .ok (.iload_n 2, 1) := by decide +kernel
theorem dX5_ask_9 : decode cX5_ask 9 = .ok (.iconst 1, 1) := by decide +kernel
theorem dX5_ask_10 : decode cX5_ask 10 = .ok (.bipush 50, 2) := by decide +kernel
theorem dX5_ask_12 : decode cX5_ask 12 = .ok (.invokestatic 30, 3) := by decide +kernel
theorem dX5_ask_15 : decode cX5_ask 15 = .ok (.ifCond .ne 5, 3) := by decide +kernel
theorem dX5_ask_18 : decode cX5_ask 18 = .ok (.iconst (-1), 1) := by decide +kernel
theorem dX5_ask_19 : decode cX5_ask 19 = .ok (.ireturn, 1) := by decide +kernel
theorem dX5_ask_20 : decode cX5_ask 20 = .ok (.aload_n 0, 1) := by decide +kernel
theorem dX5_ask_21 : decode cX5_ask 21 = .ok (.iload_n 1, 1) := by decide +kernel
theorem dX5_ask_22 : decode cX5_ask 22 = .ok (.iload_n 2, 1) := by decide +kernel
theorem dX5_ask_23 : decode cX5_ask 23 = .ok (.invokevirtual 67, 3) := by decide +kernel
theorem dX5_ask_26 : decode cX5_ask 26 = .ok (.ifCond .ne 6, 3) := by decide +kernel
theorem dX5_ask_29 : decode cX5_ask 29 = .ok (.bipush (-3), 2) := by decide +kernel
theorem dX5_ask_31 : decode cX5_ask 31 = .ok (.ireturn, 1) := by decide +kernel
theorem dX5_ask_32 : decode cX5_ask 32 = .ok (.aload_n 0, 1) := by decide +kernel
theorem dX5_ask_33 : decode cX5_ask 33 = .ok (.invokevirtual 37, 3) := by decide +kernel
theorem dX5_ask_36 : decode cX5_ask 36 = .ok (.aload_n 0, 1) := by decide +kernel
theorem dX5_ask_37 : decode cX5_ask 37 = .ok (.iload_n 1, 1) := by decide +kernel
theorem dX5_ask_38 : decode cX5_ask 38 = .ok (.iload_n 2, 1) := by decide +kernel
theorem dX5_ask_39 : decode cX5_ask 39 = .ok (.invokevirtual 71, 3) := by decide +kernel
theorem dX5_ask_42 : decode cX5_ask 42 = .ok (.ireturn, 1) := by decide +kernel
set_option maxRecDepth 20000 in
theorem ggX5_makeHole_X5_n : GoodIn wsX5_makeHole wsX5_n := goodIn_r _ [5] (by decide +kernel) (by decide +kernel)
set_option maxRecDepth 20000 in
theorem gX5_makeHole_X5_n : GoodIn wsX5_makeHole (va_wsS RX5 22 yX5_n wsX5_n) := goodIn_app (goodIn_of _ (by decide +kernel)) ggX5_makeHole_X5_n
theorem dX5_makeHole_0 : decode cX5_makeHole 0 = .ok (.aload_n 0, 1) := by decide +kernel
theorem dX5_makeHole_1 : decode cX5_makeHole 1 = .ok (.getfield 7, 3) := by decide +kernel
theorem dX5_makeHole_4 : decode cX5_makeHole 4 = .ok (.iload_n 1, 1) := by decide +kernel
theorem dX5_makeHole_5 : decode cX5_makeHole 5 = .ok (.invokestatic 22, 3) := by decide +kernel
theorem dX5_makeHole_8 : decode cX5_makeHole 8 = .ok (.iconst 0, 1) := by decide +kernel
theorem dX5_makeHole_9 : decode cX5_makeHole 9 = .ok (.iadd, 1) := by decide +kernel
theorem dX5_makeHole_10 : decode cX5_makeHole 10 = .ok (.iconst 4, 1) := by decide +kernel
theorem dX5_makeHole_11 : decode cX5_makeHole 11 = .ok (.iastore, 1) := by decide +kernel
theorem dX5_makeHole_12 : decode cX5_makeHole 12 = .ok (.aload_n 0, 1) := by decide +kernel
theorem dX5_makeHole_13 : decode cX5_makeHole 13 = .ok (.getfield 7, 3) := by decide +kernel
theorem dX5_makeHole_16 : decode cX5_makeHole 16 = .ok (.iload_n 1, 1) := by decide +kernel
theorem dX5_makeHole_17 : decode cX5_makeHole 17 = .ok (.invokestatic 22, 3) := by decide +kernel
theorem dX5_makeHole_20 : decode cX5_makeHole 20 = .ok (.iconst 4, 1) := by decide +kernel
theorem dX5_makeHole_21 : decode cX5_makeHole 21 = .ok (.iadd, 1) := by decide +kernel
theorem dX5_makeHole_22 : decode cX5_makeHole 22 = .ok (.iload_n 2, 1) := by decide +kernel
theorem dX5_makeHole_23 : decode cX5_makeHole 23 = .ok (.iastore, 1) := by decide +kernel
theorem dX5_makeHole_24 : decode cX5_makeHole 24 = .ok (.return_, 1) := by decide +kernel
set_option maxRecDepth 20000 in
theorem ggX5_goForget_X5_c : GoodIn wsX5_goForget wsX5_c := goodIn_r _ [5] (by decide +kernel) (by decide +kernel)
set_option maxRecDepth 20000 in
theorem gX5_goForget_X5_c : GoodIn wsX5_goForget (va_wsS RX5 34 yX5_c wsX5_c) := goodIn_app (goodIn_of _ (by decide +kernel)) ggX5_goForget_X5_c
set_option maxRecDepth 20000 in
theorem ggX5_goForget_X5_holds : GoodIn wsX5_goForget wsX5_holds := goodIn_r _ [9, 1, 2, 3, 4, 5, 17, 18, 19, 20, 21, 22, 23, 24, 25, 26, 27] (by decide +kernel) (by decide +kernel)
set_option maxRecDepth 20000 in
theorem gX5_goForget_X5_holds : GoodIn wsX5_goForget (wsV RX5 50 RX5 yX5_holds wsX5_holds) := goodIn_app (goodIn_of _ (by decide +kernel)) ggX5_goForget_X5_holds
set_option maxRecDepth 20000 in
theorem ggX5_goForget_X5_makeHole : GoodIn wsX5_goForget wsX5_makeHole := goodIn_r _ [13, 1, 14, 15, 4, 16, 17, 18, 19, 20, 21, 22, 23, 24, 25, 26, 27] (by decide +kernel) (by decide +kernel)
set_option maxRecDepth 20000 in
theorem gX5_goForget_X5_makeHole : GoodIn wsX5_goForget (wsV RX5 75 RX5 yX5_makeHole wsX5_makeHole) := goodIn_app (goodIn_of _ (by decide +kernel)) ggX5_goForget_X5_makeHole
theorem dX5_goForget_0 : decode cX5_goForget 0 = .ok (.iload_n 1, 1) := by decide +kernel
theorem dX5_goForget_1 : decode cX5_goForget 1 = .ok (.invokestatic 34, 3) := by decide +kernel
theorem dX5_goForget_4 : decode cX5_goForget 4 = .ok (.istore_n 2, 1) := by decide +kernel
theorem dX5_goForget_5 : decode cX5_goForget 5 = .ok (.iconst 0, 1) := by decide +kernel
theorem dX5_goForget_6 : decode cX5_goForget 6 = .ok (.istore_n 3, 1) := by decide +kernel
theorem dX5_goForget_7 : decode cX5_goForget 7 = .ok (.aload_n 0, 1) := by decide +kernel
theorem dX5_goForget_8 : decode cX5_goForget 8 = .ok (.iload_n 1, 1) := by decide +kernel
theorem dX5_goForget_9 : decode cX5_goForget 9 = .ok (.invokevirtual 50, 3) := by decide +kernel
theorem dX5_goForget_12 : decode cX5_goForget 12 = .ok (.ifCond .le 53, 3) := by decide +kernel
theorem dX5_goForget_15 : decode cX5_goForget 15 = .ok (.aload_n 0, 1) := by decide +kernel
theorem dX5_goForget_16 : decode cX5_goForget 16 = .ok (.getfield 7, 3) := by decide +kernel
theorem dX5_goForget_19 : decode cX5_goForget 19 = .ok (.iload_n 2, 1) := by decide +kernel
theorem dX5_goForget_20 : decode cX5_goForget 20 = .ok (.iconst 1, 1) := by decide +kernel
theorem dX5_goForget_21 : decode cX5_goForget 21 = .ok (.iadd, 1) := by decide +kernel
theorem dX5_goForget_22 : decode cX5_goForget 22 = .ok (.iaload, 1) := by decide +kernel
theorem dX5_goForget_23 : decode cX5_goForget 23 = .ok (.aload_n 0, 1) := by decide +kernel
theorem dX5_goForget_24 : decode cX5_goForget 24 = .ok (.getfield 7, 3) := by decide +kernel
theorem dX5_goForget_27 : decode cX5_goForget 27 = .ok (.iload_n 2, 1) := by decide +kernel
theorem dX5_goForget_28 : decode cX5_goForget 28 = .ok (.iconst 3, 1) := by decide +kernel
theorem dX5_goForget_29 : decode cX5_goForget 29 = .ok (.iadd, 1) := by decide +kernel
theorem dX5_goForget_30 : decode cX5_goForget 30 = .ok (.iaload, 1) := by decide +kernel
theorem dX5_goForget_31 : decode cX5_goForget 31 = .ok (.if_icmp .gt 34, 3) := by decide +kernel
theorem dX5_goForget_34 : decode cX5_goForget 34 = .ok (.aload_n 0, 1) := by decide +kernel
theorem dX5_goForget_35 : decode cX5_goForget 35 = .ok (.aload_n 0, 1) := by decide +kernel
theorem dX5_goForget_36 : decode cX5_goForget 36 = .ok (.getfield 7, 3) := by decide +kernel
theorem dX5_goForget_39 : decode cX5_goForget 39 = .ok (.iload_n 2, 1) := by decide +kernel
theorem dX5_goForget_40 : decode cX5_goForget 40 = .ok (.iconst 1, 1) := by decide +kernel
theorem dX5_goForget_41 : decode cX5_goForget 41 = .ok (.iadd, 1) := by decide +kernel
theorem dX5_goForget_42 : decode cX5_goForget 42 = .ok (.iaload, 1) := by decide +kernel
theorem dX5_goForget_43 : decode cX5_goForget 43 = .ok (.iconst 0, 1) := by decide +kernel
theorem dX5_goForget_44 : decode cX5_goForget 44 = .ok (.invokevirtual 75, 3) := by decide +kernel
theorem dX5_goForget_47 : decode cX5_goForget 47 = .ok (.aload_n 0, 1) := by decide +kernel
theorem dX5_goForget_48 : decode cX5_goForget 48 = .ok (.getfield 7, 3) := by decide +kernel
theorem dX5_goForget_51 : decode cX5_goForget 51 = .ok (.iload_n 2, 1) := by decide +kernel
theorem dX5_goForget_52 : decode cX5_goForget 52 = .ok (.iconst 1, 1) := by decide +kernel
theorem dX5_goForget_53 : decode cX5_goForget 53 = .ok (.iadd, 1) := by decide +kernel
theorem dX5_goForget_54 : decode cX5_goForget 54 = .ok (.dup2, 1) := by decide +kernel
theorem dX5_goForget_55 : decode cX5_goForget 55 = .ok (.iaload, 1) := by decide +kernel
theorem dX5_goForget_56 : decode cX5_goForget 56 = .ok (.iconst 1, 1) := by decide +kernel
theorem dX5_goForget_57 : decode cX5_goForget 57 = .ok (.iadd, 1) := by decide +kernel
theorem dX5_goForget_58 : decode cX5_goForget 58 = .ok (.iastore, 1) := by decide +kernel
theorem dX5_goForget_59 : decode cX5_goForget 59 = .ok (.iinc 3 1, 3) := by decide +kernel
theorem dX5_goForget_62 : decode cX5_goForget 62 = .ok (.goto (-55), 3) := by decide +kernel
theorem dX5_goForget_65 : decode cX5_goForget 65 = .ok (.iload_n 3, 1) := by decide +kernel
theorem dX5_goForget_66 : decode cX5_goForget 66 = .ok (.ireturn, 1) := by decide +kernel
set_option maxRecDepth 20000 in
theorem ggX5_forget_X5_isClerk : GoodIn wsX5_forget wsX5_isClerk := goodIn_r _ [5, 6, 7, 8, 4, 9, 34, 35, 36, 37, 38, 39, 40, 41, 42, 43, 44] (by decide +kernel) (by decide +kernel)
set_option maxRecDepth 20000 in
theorem gX5_forget_X5_isClerk : GoodIn wsX5_forget (wsV RX5 63 RX5 yX5_isClerk wsX5_isClerk) := goodIn_app (goodIn_of _ (by decide +kernel)) ggX5_forget_X5_isClerk
set_option maxRecDepth 20000 in
theorem ggX5_forget_X5_holds : GoodIn wsX5_forget wsX5_holds := goodIn_r _ [13, 6, 14, 15, 4, 16, 34, 35, 36, 37, 38, 39, 40, 41, 42, 43, 44] (by decide +kernel) (by decide +kernel)
set_option maxRecDepth 20000 in
theorem gX5_forget_X5_holds : GoodIn wsX5_forget (wsV RX5 50 RX5 yX5_holds wsX5_holds) := goodIn_app (goodIn_of _ (by decide +kernel)) ggX5_forget_X5_holds
set_option maxRecDepth 20000 in
theorem ggX5_forget_X5_record : GoodIn wsX5_forget wsX5_record := goodIn_r _ [20, 21, 22, 6, 34, 35, 36, 37, 38, 39, 40, 41, 42, 43, 44] (by decide +kernel) (by decide +kernel)
set_option maxRecDepth 20000 in
theorem gX5_forget_X5_record : GoodIn wsX5_forget (wsV RX5 37 RX5 yX5_record wsX5_record) := goodIn_app (goodIn_of _ (by decide +kernel)) ggX5_forget_X5_record
set_option maxRecDepth 20000 in
theorem ggX5_forget_X5_goForget : GoodIn wsX5_forget wsX5_goForget := goodIn_r _ [26, 6, 14, 15, 4, 16, 10, 11, 12, 13, 27, 28, 29, 30, 31, 32, 33, 34, 35, 36, 37, 38, 39, 40, 41, 42, 43, 44] (by decide +kernel) (by decide +kernel)
set_option maxRecDepth 20000 in
theorem gX5_forget_X5_goForget : GoodIn wsX5_forget (wsV RX5 79 RX5 yX5_goForget wsX5_goForget) := goodIn_app (goodIn_of _ (by decide +kernel)) ggX5_forget_X5_goForget
theorem dX5_forget_0 : decode cX5_forget 0 = .ok (.aload_n 0, 1) := by decide +kernel
theorem dX5_forget_1 : decode cX5_forget 1 = .ok (.iload_n 1, 1) := by decide +kernel
theorem dX5_forget_2 : decode cX5_forget 2 = .ok (.invokevirtual 63, 3) := by decide +kernel
theorem dX5_forget_5 : decode cX5_forget 5 = .ok (.ifCond .ne 5, 3) := by decide +kernel
theorem dX5_forget_8 : decode cX5_forget 8 = .ok (.iconst (-1), 1) := by decide +kernel
theorem dX5_forget_9 : decode cX5_forget 9 = .ok (.ireturn, 1) := by decide +kernel
theorem dX5_forget_10 : decode cX5_forget 10 = .ok (.aload_n 0, 1) := by decide +kernel
theorem dX5_forget_11 : decode cX5_forget 11 = .ok (.iload_n 1, 1) := by decide +kernel
theorem dX5_forget_12 : decode cX5_forget 12 = .ok (.invokevirtual 50, 3) := by decide +kernel
theorem dX5_forget_15 : decode cX5_forget 15 = .ok (.ifCond .ne 6, 3) := by decide +kernel
theorem dX5_forget_18 : decode cX5_forget 18 = .ok (.bipush (-2), 2) := by decide +kernel
theorem dX5_forget_20 : decode cX5_forget 20 = .ok (.ireturn, 1) := by decide +kernel
theorem dX5_forget_21 : decode cX5_forget 21 = .ok (.aload_n 0, 1) := by decide +kernel
theorem dX5_forget_22 : decode cX5_forget 22 = .ok (.invokevirtual 37, 3) := by decide +kernel
theorem dX5_forget_25 : decode cX5_forget 25 = .ok (.aload_n 0, 1) := by decide +kernel
theorem dX5_forget_26 : decode cX5_forget 26 = .ok (.iload_n 1, 1) := by decide +kernel
theorem dX5_forget_27 : decode cX5_forget 27 = .ok (.invokevirtual 79, 3) := by decide +kernel
theorem dX5_forget_30 : decode cX5_forget 30 = .ok (.ireturn, 1) := by decide +kernel
set_option maxRecDepth 20000 in
theorem ggX5_goBack_X5_c : GoodIn wsX5_goBack wsX5_c := goodIn_r _ [5] (by decide +kernel) (by decide +kernel)
set_option maxRecDepth 20000 in
theorem gX5_goBack_X5_c : GoodIn wsX5_goBack (va_wsS RX5 34 yX5_c wsX5_c) := goodIn_app (goodIn_of _ (by decide +kernel)) ggX5_goBack_X5_c
set_option maxRecDepth 20000 in
theorem ggX5_goBack_X5_holds : GoodIn wsX5_goBack wsX5_holds := goodIn_r _ [9, 1, 2, 3, 4, 5, 17, 18, 19, 20, 21, 22, 23, 24, 25, 26, 27] (by decide +kernel) (by decide +kernel)
set_option maxRecDepth 20000 in
theorem gX5_goBack_X5_holds : GoodIn wsX5_goBack (wsV RX5 50 RX5 yX5_holds wsX5_holds) := goodIn_app (goodIn_of _ (by decide +kernel)) ggX5_goBack_X5_holds
set_option maxRecDepth 20000 in
theorem ggX5_goBack_X5_n : GoodIn wsX5_goBack wsX5_n := goodIn_r _ [12] (by decide +kernel) (by decide +kernel)
set_option maxRecDepth 20000 in
theorem gX5_goBack_X5_n : GoodIn wsX5_goBack (va_wsS RX5 22 yX5_n wsX5_n) := goodIn_app (goodIn_of _ (by decide +kernel)) ggX5_goBack_X5_n
set_option maxRecDepth 20000 in
theorem ggX5_goBack_X5_makeHole : GoodIn wsX5_goBack wsX5_makeHole := goodIn_r _ [16, 1, 10, 11, 4, 12, 17, 18, 19, 20, 21, 22, 23, 24, 25, 26, 27] (by decide +kernel) (by decide +kernel)
set_option maxRecDepth 20000 in
theorem gX5_goBack_X5_makeHole : GoodIn wsX5_goBack (wsV RX5 75 RX5 yX5_makeHole wsX5_makeHole) := goodIn_app (goodIn_of _ (by decide +kernel)) ggX5_goBack_X5_makeHole
theorem dX5_goBack_0 : decode cX5_goBack 0 = .ok (.iload_n 1, 1) := by decide +kernel
theorem dX5_goBack_1 : decode cX5_goBack 1 = .ok (.invokestatic 34, 3) := by decide +kernel
theorem dX5_goBack_4 : decode cX5_goBack 4 = .ok (.istore_n 2, 1) := by decide +kernel
theorem dX5_goBack_5 : decode cX5_goBack 5 = .ok (.aload_n 0, 1) := by decide +kernel
theorem dX5_goBack_6 : decode cX5_goBack 6 = .ok (.iload_n 1, 1) := by decide +kernel
theorem dX5_goBack_7 : decode cX5_goBack 7 = .ok (.invokevirtual 50, 3) := by decide +kernel
theorem dX5_goBack_10 : decode cX5_goBack 10 = .ok (.istore_n 3, 1) := by decide +kernel
theorem dX5_goBack_11 : decode cX5_goBack 11 = .ok (.aload_n 0, 1) := by decide +kernel
theorem dX5_goBack_12 : decode cX5_goBack 12 = .ok (.getfield 7, 3) := by decide +kernel
theorem dX5_goBack_15 : decode cX5_goBack 15 = .ok (.iload_n 2, 1) := by decide +kernel
theorem dX5_goBack_16 : decode cX5_goBack 16 = .ok (.iconst 1, 1) := by decide +kernel
theorem dX5_goBack_17 : decode cX5_goBack 17 = .ok (.iadd, 1) := by decide +kernel
theorem dX5_goBack_18 : decode cX5_goBack 18 = .ok (.iaload, 1) := by decide +kernel
theorem dX5_goBack_19 : decode cX5_goBack 19 = .ok (.aload_n 0, 1) := by decide +kernel
theorem dX5_goBack_20 : decode cX5_goBack 20 = .ok (.getfield 7, 3) := by decide +kernel
theorem dX5_goBack_23 : decode cX5_goBack 23 = .ok (.iload_n 2, 1) := by decide +kernel
theorem dX5_goBack_24 : decode cX5_goBack 24 = .ok (.iconst 2, 1) := by decide +kernel
theorem dX5_goBack_25 : decode cX5_goBack 25 = .ok (.iadd, 1) := by decide +kernel
theorem dX5_goBack_26 : decode cX5_goBack 26 = .ok (.iaload, 1) := by decide +kernel
theorem dX5_goBack_27 : decode cX5_goBack 27 = .ok (.if_icmp .gt 82, 3) := by decide +kernel
theorem dX5_goBack_30 : decode cX5_goBack 30 = .ok (.aload_n 0, 1) := by decide +kernel
theorem dX5_goBack_31 : decode cX5_goBack 31 = .ok (.getfield 7, 3) := by decide +kernel
theorem dX5_goBack_34 : decode cX5_goBack 34 = .ok (.iconst 1, 1) := by decide +kernel
theorem dX5_goBack_35 : decode cX5_goBack 35 = .ok (.iaload, 1) := by decide +kernel
theorem dX5_goBack_36 : decode cX5_goBack 36 = .ok (.iconst 1, 1) := by decide +kernel
theorem dX5_goBack_37 : decode cX5_goBack 37 = .ok (.if_icmp .ne 44, 3) := by decide +kernel
theorem dX5_goBack_40 : decode cX5_goBack 40 = .ok (.aload_n 0, 1) := by decide +kernel
theorem dX5_goBack_41 : decode cX5_goBack 41 = .ok (.getfield 7, 3) := by decide +kernel
theorem dX5_goBack_44 : decode cX5_goBack 44 = .ok (.aload_n 0, 1) := by decide +kernel
theorem dX5_goBack_45 : decode cX5_goBack 45 = .ok (.getfield 7, 3) := by decide +kernel
theorem dX5_goBack_48 : decode cX5_goBack 48 = .ok (.iload_n 2, 1) := by decide +kernel
theorem dX5_goBack_49 : decode cX5_goBack 49 = .ok (.iconst 1, 1) := by decide +kernel
theorem dX5_goBack_50 : decode cX5_goBack 50 = .ok (.iadd, 1) := by decide +kernel
theorem dX5_goBack_51 : decode cX5_goBack 51 = .ok (.iaload, 1) := by decide +kernel
theorem dX5_goBack_52 : decode cX5_goBack 52 = .ok (.invokestatic 22, 3) := by decide +kernel
theorem dX5_goBack_55 : decode cX5_goBack 55 = .ok (.iconst 0, 1) := by decide +kernel
theorem dX5_goBack_56 : decode cX5_goBack 56 = .ok (.iadd, 1) := by decide +kernel
theorem dX5_goBack_57 : decode cX5_goBack 57 = .ok (.iconst 3, 1) := by decide +kernel
theorem dX5_goBack_58 : decode cX5_goBack 58 = .ok (.iastore, 1) := by decide +kernel
theorem dX5_goBack_59 : decode cX5_goBack 59 = .ok (.aload_n 0, 1) := by decide +kernel
theorem dX5_goBack_60 : decode cX5_goBack 60 = .ok (.getfield 7, 3) := by decide +kernel
theorem dX5_goBack_63 : decode cX5_goBack 63 = .ok (.aload_n 0, 1) := by decide +kernel
theorem dX5_goBack_64 : decode cX5_goBack 64 = .ok (.getfield 7, 3) := by decide +kernel
theorem dX5_goBack_67 : decode cX5_goBack 67 = .ok (.iload_n 2, 1) := by decide +kernel
theorem dX5_goBack_68 : decode cX5_goBack 68 = .ok (.iconst 1, 1) := by decide +kernel
theorem dX5_goBack_69 : decode cX5_goBack 69 = .ok (.iadd, 1) := by decide +kernel
theorem dX5_goBack_70 : decode cX5_goBack 70 = .ok (.iaload, 1) := by decide +kernel
theorem dX5_goBack_71 : decode cX5_goBack 71 = .ok (.invokestatic 22, 3) := by decide +kernel
theorem dX5_goBack_74 : decode cX5_goBack 74 = .ok (.iconst 1, 1) := by decide +kernel
theorem dX5_goBack_75 : decode cX5_goBack 75 = .ok (.iadd, 1) := by decide +kernel
theorem dX5_goBack_76 : decode cX5_goBack 76 = .ok (.iconst (-1), 1) := by decide +kernel
theorem dX5_goBack_77 : decode cX5_goBack 77 = .ok (.iastore, 1) := by decide +kernel
theorem dX5_goBack_78 : decode cX5_goBack 78 = .ok (.goto 16, 3) := by decide +kernel
theorem dX5_goBack_81 : decode cX5_goBack 81 = .ok (.aload_n 0, 1) := by decide +kernel
theorem dX5_goBack_82 : decode cX5_goBack 82 = .ok (.aload_n 0, 1) := by decide +kernel
theorem dX5_goBack_83 : decode cX5_goBack 83 = .ok (.getfield 7, 3) := by decide +kernel
theorem dX5_goBack_86 : decode cX5_goBack 86 = .ok (.iload_n 2, 1) := by decide +kernel
theorem dX5_goBack_87 : decode cX5_goBack 87 = .ok (.iconst 1, 1) := by decide +kernel
theorem dX5_goBack_88 : decode cX5_goBack 88 = .ok (.iadd, 1) := by decide +kernel
theorem dX5_goBack_89 : decode cX5_goBack 89 = .ok (.iaload, 1) := by decide +kernel
theorem dX5_goBack_90 : decode cX5_goBack 90 = .ok (.iconst 1, 1) := by decide +kernel
theorem dX5_goBack_91 : decode cX5_goBack 91 = .ok (.invokevirtual 75, 3) := by decide +kernel
theorem dX5_goBack_94 : decode cX5_goBack 94 = .ok (.aload_n 0, 1) := by decide +kernel
theorem dX5_goBack_95 : decode cX5_goBack 95 = .ok (.getfield 7, 3) := by decide +kernel
theorem dX5_goBack_98 : decode cX5_goBack 98 = .ok (.iload_n 2, 1) := by decide +kernel
theorem dX5_goBack_99 : decode cX5_goBack 99 = .ok (.iconst 1, 1) := by decide +kernel
theorem dX5_goBack_100 : decode cX5_goBack 100 = .ok (.iadd, 1) := by decide +kernel
theorem dX5_goBack_101 : decode cX5_goBack 101 = .ok (.dup2, 1) := by decide +kernel
theorem dX5_goBack_102 : decode cX5_goBack 102 = .ok (.iaload, 1) := by decide +kernel
theorem dX5_goBack_103 : decode cX5_goBack 103 = .ok (.iconst 1, 1) := by decide +kernel
theorem dX5_goBack_104 : decode cX5_goBack 104 = .ok (.iadd, 1) := by decide +kernel
theorem dX5_goBack_105 : decode cX5_goBack 105 = .ok (.iastore, 1) := by decide +kernel
theorem dX5_goBack_106 : decode cX5_goBack 106 = .ok (.goto (-95), 3) := by decide +kernel
theorem dX5_goBack_109 : decode cX5_goBack 109 = .ok (.iload_n 3, 1) := by decide +kernel
theorem dX5_goBack_110 : decode cX5_goBack 110 = .ok (.ireturn, 1) := by decide +kernel
set_option maxRecDepth 20000 in
theorem ggX5_giveBack_X5_isClerk : GoodIn wsX5_giveBack wsX5_isClerk := goodIn_r _ [5, 6, 7, 8, 4, 9, 34, 35, 36, 37, 38, 39, 40, 41, 42, 43, 44] (by decide +kernel) (by decide +kernel)
set_option maxRecDepth 20000 in
theorem gX5_giveBack_X5_isClerk : GoodIn wsX5_giveBack (wsV RX5 63 RX5 yX5_isClerk wsX5_isClerk) := goodIn_app (goodIn_of _ (by decide +kernel)) ggX5_giveBack_X5_isClerk
set_option maxRecDepth 20000 in
theorem ggX5_giveBack_X5_holds : GoodIn wsX5_giveBack wsX5_holds := goodIn_r _ [13, 6, 14, 15, 4, 16, 34, 35, 36, 37, 38, 39, 40, 41, 42, 43, 44] (by decide +kernel) (by decide +kernel)
set_option maxRecDepth 20000 in
theorem gX5_giveBack_X5_holds : GoodIn wsX5_giveBack (wsV RX5 50 RX5 yX5_holds wsX5_holds) := goodIn_app (goodIn_of _ (by decide +kernel)) ggX5_giveBack_X5_holds
set_option maxRecDepth 20000 in
theorem ggX5_giveBack_X5_record : GoodIn wsX5_giveBack wsX5_record := goodIn_r _ [20, 21, 22, 6, 34, 35, 36, 37, 38, 39, 40, 41, 42, 43, 44] (by decide +kernel) (by decide +kernel)
set_option maxRecDepth 20000 in
theorem gX5_giveBack_X5_record : GoodIn wsX5_giveBack (wsV RX5 37 RX5 yX5_record wsX5_record) := goodIn_app (goodIn_of _ (by decide +kernel)) ggX5_giveBack_X5_record
set_option maxRecDepth 20000 in
theorem ggX5_giveBack_X5_goBack : GoodIn wsX5_giveBack wsX5_goBack := goodIn_r _ [26, 6, 14, 15, 4, 16, 10, 11, 12, 13, 27, 28, 29, 30, 31, 32, 33, 34, 35, 36, 37, 38, 39, 40, 41, 42, 43, 44] (by decide +kernel) (by decide +kernel)
set_option maxRecDepth 20000 in
theorem gX5_giveBack_X5_goBack : GoodIn wsX5_giveBack (wsV RX5 82 RX5 yX5_goBack wsX5_goBack) := goodIn_app (goodIn_of _ (by decide +kernel)) ggX5_giveBack_X5_goBack
theorem dX5_giveBack_0 : decode cX5_giveBack 0 = .ok (.aload_n 0, 1) := by decide +kernel
theorem dX5_giveBack_1 : decode cX5_giveBack 1 = .ok (.iload_n 1, 1) := by decide +kernel
theorem dX5_giveBack_2 : decode cX5_giveBack 2 = .ok (.invokevirtual 63, 3) := by decide +kernel
theorem dX5_giveBack_5 : decode cX5_giveBack 5 = .ok (.ifCond .ne 5, 3) := by decide +kernel
theorem dX5_giveBack_8 : decode cX5_giveBack 8 = .ok (.iconst (-1), 1) := by decide +kernel
theorem dX5_giveBack_9 : decode cX5_giveBack 9 = .ok (.ireturn, 1) := by decide +kernel
theorem dX5_giveBack_10 : decode cX5_giveBack 10 = .ok (.aload_n 0, 1) := by decide +kernel
theorem dX5_giveBack_11 : decode cX5_giveBack 11 = .ok (.iload_n 1, 1) := by decide +kernel
theorem dX5_giveBack_12 : decode cX5_giveBack 12 = .ok (.invokevirtual 50, 3) := by decide +kernel
theorem dX5_giveBack_15 : decode cX5_giveBack 15 = .ok (.ifCond .ne 6, 3) := by decide +kernel
theorem dX5_giveBack_18 : decode cX5_giveBack 18 = .ok (.bipush (-2), 2) := by decide +kernel
theorem dX5_giveBack_20 : decode cX5_giveBack 20 = .ok (.ireturn, 1) := by decide +kernel
theorem dX5_giveBack_21 : decode cX5_giveBack 21 = .ok (.aload_n 0, 1) := by decide +kernel
theorem dX5_giveBack_22 : decode cX5_giveBack 22 = .ok (.invokevirtual 37, 3) := by decide +kernel
theorem dX5_giveBack_25 : decode cX5_giveBack 25 = .ok (.aload_n 0, 1) := by decide +kernel
theorem dX5_giveBack_26 : decode cX5_giveBack 26 = .ok (.iload_n 1, 1) := by decide +kernel
theorem dX5_giveBack_27 : decode cX5_giveBack 27 = .ok (.invokevirtual 82, 3) := by decide +kernel
theorem dX5_giveBack_30 : decode cX5_giveBack 30 = .ok (.ireturn, 1) := by decide +kernel
set_option maxRecDepth 20000 in
theorem ggX5_makeVoid_X5_isNumber : GoodIn wsX5_makeVoid wsX5_isNumber := goodIn_r _ [5, 6, 7, 4, 8] (by decide +kernel) (by decide +kernel)
set_option maxRecDepth 20000 in
theorem gX5_makeVoid_X5_isNumber : GoodIn wsX5_makeVoid (va_wsS RX5 85 yX5_isNumber wsX5_isNumber) := goodIn_app (goodIn_of _ (by decide +kernel)) ggX5_makeVoid_X5_isNumber
set_option maxRecDepth 20000 in
theorem ggX5_makeVoid_X5_n : GoodIn wsX5_makeVoid wsX5_n := goodIn_r _ [11] (by decide +kernel) (by decide +kernel)
set_option maxRecDepth 20000 in
theorem gX5_makeVoid_X5_n : GoodIn wsX5_makeVoid (va_wsS RX5 22 yX5_n wsX5_n) := goodIn_app (goodIn_of _ (by decide +kernel)) ggX5_makeVoid_X5_n
set_option maxRecDepth 20000 in
theorem ggX5_makeVoid_X5_record : GoodIn wsX5_makeVoid wsX5_record := goodIn_r _ [15, 16, 17, 1, 22, 23, 24, 25, 26, 27, 28, 29, 30, 31, 32] (by decide +kernel) (by decide +kernel)
set_option maxRecDepth 20000 in
theorem gX5_makeVoid_X5_record : GoodIn wsX5_makeVoid (wsV RX5 37 RX5 yX5_record wsX5_record) := goodIn_app (goodIn_of _ (by decide +kernel)) ggX5_makeVoid_X5_record
set_option maxRecDepth 20000 in
theorem ggX5_makeVoid_X5_makeHole : GoodIn wsX5_makeVoid wsX5_makeHole := goodIn_r _ [21, 1, 9, 10, 4, 11, 22, 23, 24, 25, 26, 27, 28, 29, 30, 31, 32] (by decide +kernel) (by decide +kernel)
set_option maxRecDepth 20000 in
theorem gX5_makeVoid_X5_makeHole : GoodIn wsX5_makeVoid (wsV RX5 75 RX5 yX5_makeHole wsX5_makeHole) := goodIn_app (goodIn_of _ (by decide +kernel)) ggX5_makeVoid_X5_makeHole
theorem dX5_makeVoid_0 : decode cX5_makeVoid 0 = .ok (.iload_n 1, 1) := by decide +kernel
theorem dX5_makeVoid_1 : decode cX5_makeVoid 1 = .ok (.invokestatic 85, 3) := by decide +kernel
theorem dX5_makeVoid_4 : decode cX5_makeVoid 4 = .ok (.ifCond .ne 5, 3) := by decide +kernel
theorem dX5_makeVoid_7 : decode cX5_makeVoid 7 = .ok (.iconst (-1), 1) := by decide +kernel
theorem dX5_makeVoid_8 : decode cX5_makeVoid 8 = .ok (.ireturn, 1) := by decide +kernel
theorem dX5_makeVoid_9 : decode cX5_makeVoid 9 = .ok (.aload_n 0, 1) := by decide +kernel
theorem dX5_makeVoid_10 : decode cX5_makeVoid 10 = .ok (.getfield 7, 3) := by decide +kernel
theorem dX5_makeVoid_13 : decode cX5_makeVoid 13 = .ok (.iload_n 1, 1) := by decide +kernel
theorem dX5_makeVoid_14 : decode cX5_makeVoid 14 = .ok (.invokestatic 22, 3) := by decide +kernel
theorem dX5_makeVoid_17 : decode cX5_makeVoid 17 = .ok (.iconst 0, 1) := by decide +kernel
theorem dX5_makeVoid_18 : decode cX5_makeVoid 18 = .ok (.iadd, 1) := by decide +kernel
theorem dX5_makeVoid_19 : decode cX5_makeVoid 19 = .ok (.iaload, 1) := by decide +kernel
theorem dX5_makeVoid_20 : decode cX5_makeVoid 20 = .ok (.iconst 2, 1) := by decide +kernel
theorem dX5_makeVoid_21 : decode cX5_makeVoid 21 = .ok (.if_icmp .eq 6, 3) := by decide +kernel
theorem dX5_makeVoid_24 : decode cX5_makeVoid 24 = .ok (.bipush (-2), 2) := by decide +kernel
theorem dX5_makeVoid_26 : decode cX5_makeVoid 26 = .ok (.ireturn, 1) := by decide +kernel
theorem dX5_makeVoid_27 : decode cX5_makeVoid 27 = .ok (.aload_n 0, 1) := by decide +kernel
theorem dX5_makeVoid_28 : decode cX5_makeVoid 28 = .ok (.invokevirtual 37, 3) := by decide +kernel
theorem dX5_makeVoid_31 : decode cX5_makeVoid 31 = .ok (.aload_n 0, 1) := by decide +kernel
theorem dX5_makeVoid_32 : decode cX5_makeVoid 32 = .ok (.iload_n 1, 1) := by decide +kernel
theorem dX5_makeVoid_33 : decode cX5_makeVoid 33 = .ok (.iconst 2, 1) := by decide +kernel
theorem dX5_makeVoid_34 : decode cX5_makeVoid 34 = .ok (.invokevirtual 75, 3) := by decide +kernel
theorem dX5_makeVoid_37 : decode cX5_makeVoid 37 = .ok (.aload_n 0, 1) := by decide +kernel
theorem dX5_makeVoid_38 : decode cX5_makeVoid 38 = .ok (.getfield 7, 3) := by decide +kernel
theorem dX5_makeVoid_41 : decode cX5_makeVoid 41 = .ok (.iload_n 1, 1) := by decide +kernel
theorem dX5_makeVoid_42 : decode cX5_makeVoid 42 = .ok (.invokestatic 22, 3) := by decide +kernel
theorem dX5_makeVoid_45 : decode cX5_makeVoid 45 = .ok (.iconst 1, 1) := by decide +kernel
theorem dX5_makeVoid_46 : decode cX5_makeVoid 46 = .ok (.iadd, 1) := by decide +kernel
theorem dX5_makeVoid_47 : decode cX5_makeVoid 47 = .ok (.iaload, 1) := by decide +kernel
theorem dX5_makeVoid_48 : decode cX5_makeVoid 48 = .ok (.ireturn, 1) := by decide +kernel
set_option maxRecDepth 20000 in
theorem ggX5_goClose_X5_n : GoodIn wsX5_goClose wsX5_n := goodIn_r _ [5] (by decide +kernel) (by decide +kernel)
set_option maxRecDepth 20000 in
theorem gX5_goClose_X5_n : GoodIn wsX5_goClose (va_wsS RX5 22 yX5_n wsX5_n) := goodIn_app (goodIn_of _ (by decide +kernel)) ggX5_goClose_X5_n
set_option maxRecDepth 20000 in
theorem ggX5_goClose_X5_makeHole : GoodIn wsX5_goClose wsX5_makeHole := goodIn_r _ [9, 1, 2, 3, 4, 5, 13, 14, 15, 16, 17, 18, 19, 20, 21, 22, 23] (by decide +kernel) (by decide +kernel)
set_option maxRecDepth 20000 in
theorem gX5_goClose_X5_makeHole : GoodIn wsX5_goClose (wsV RX5 75 RX5 yX5_makeHole wsX5_makeHole) := goodIn_app (goodIn_of _ (by decide +kernel)) ggX5_goClose_X5_makeHole
set_option maxRecDepth 20000 in
theorem ggX5_goClose_X5_c : GoodIn wsX5_goClose wsX5_c := goodIn_r _ [12] (by decide +kernel) (by decide +kernel)
set_option maxRecDepth 20000 in
theorem gX5_goClose_X5_c : GoodIn wsX5_goClose (va_wsS RX5 34 yX5_c wsX5_c) := goodIn_app (goodIn_of _ (by decide +kernel)) ggX5_goClose_X5_c
theorem dX5_goClose_0 : decode cX5_goClose 0 = .ok (.iconst 0, 1) := by decide +kernel
theorem dX5_goClose_1 : decode cX5_goClose 1 = .ok (.istore_n 1, 1) := by decide +kernel
theorem dX5_goClose_2 : decode cX5_goClose 2 = .ok (.iconst 1, 1) := by decide +kernel
theorem dX5_goClose_3 : decode cX5_goClose 3 = .ok (.istore_n 2, 1) := by decide +kernel
theorem dX5_goClose_4 : decode cX5_goClose 4 = .ok (.iload_n 2, 1) := by decide +kernel
theorem dX5_goClose_5 : decode cX5_goClose 5 = .ok (.sipush 600, 3) := by decide +kernel
theorem dX5_goClose_8 : decode cX5_goClose 8 = .ok (.if_icmp .gt 48, 3) := by decide +kernel
theorem dX5_goClose_11 : decode cX5_goClose 11 = .ok (.aload_n 0, 1) := by decide +kernel
theorem dX5_goClose_12 : decode cX5_goClose 12 = .ok (.getfield 7, 3) := by decide +kernel
theorem dX5_goClose_15 : decode cX5_goClose 15 = .ok (.iload_n 2, 1) := by decide +kernel
theorem dX5_goClose_16 : decode cX5_goClose 16 = .ok (.invokestatic 22, 3) := by decide +kernel
theorem dX5_goClose_19 : decode cX5_goClose 19 = .ok (.iconst 0, 1) := by decide +kernel
theorem dX5_goClose_20 : decode cX5_goClose 20 = .ok (.iadd, 1) := by decide +kernel
theorem dX5_goClose_21 : decode cX5_goClose 21 = .ok (.iaload, 1) := by decide +kernel
theorem dX5_goClose_22 : decode cX5_goClose 22 = .ok (.iconst 1, 1) := by decide +kernel
theorem dX5_goClose_23 : decode cX5_goClose 23 = .ok (.if_icmp .eq 18, 3) := by decide +kernel
theorem dX5_goClose_26 : decode cX5_goClose 26 = .ok (.aload_n 0, 1) := by decide +kernel
theorem dX5_goClose_27 : decode cX5_goClose 27 = .ok (.getfield 7, 3) := by decide +kernel
theorem dX5_goClose_30 : decode cX5_goClose 30 = .ok (.iload_n 2, 1) := by decide +kernel
theorem dX5_goClose_31 : decode cX5_goClose 31 = .ok (.invokestatic 22, 3) := by decide +kernel
theorem dX5_goClose_34 : decode cX5_goClose 34 = .ok (.iconst 0, 1) := by decide +kernel
theorem dX5_goClose_35 : decode cX5_goClose 35 = .ok (.iadd, 1) := by decide +kernel
theorem dX5_goClose_36 : decode cX5_goClose 36 = .ok (.iaload, 1) := by decide +kernel
theorem dX5_goClose_37 : decode cX5_goClose 37 = .ok (.iconst 3, 1) := by decide +kernel
theorem dX5_goClose_38 : decode cX5_goClose 38 = .ok (.if_icmp .ne 12, 3) := by decide +kernel
theorem dX5_goClose_41 : decode cX5_goClose 41 = .ok (.aload_n 0, 1) := by decide +kernel
theorem dX5_goClose_42 : decode cX5_goClose 42 = .ok (.iload_n 2, 1) := by decide +kernel
theorem dX5_goClose_43 : decode cX5_goClose 43 = .ok (.iconst 3, 1) := by decide +kernel
theorem dX5_goClose_44 : decode cX5_goClose 44 = .ok (.invokevirtual 75, 3) := by decide +kernel
theorem dX5_goClose_47 : decode cX5_goClose 47 = .ok (.iinc 1 1, 3) := by decide +kernel
theorem dX5_goClose_50 : decode cX5_goClose 50 = .ok (.iinc 2 1, 3) := by decide +kernel
theorem dX5_goClose_53 : decode cX5_goClose 53 = .ok (.goto (-49), 3) := by decide +kernel
theorem dX5_goClose_56 : decode cX5_goClose 56 = .ok (.iconst 0, 1) := by decide +kernel
theorem dX5_goClose_57 : decode cX5_goClose 57 = .ok (.istore_n 2, 1) := by decide +kernel
theorem dX5_goClose_58 : decode cX5_goClose 58 = .ok (.iload_n 2, 1) := by decide +kernel
theorem dX5_goClose_59 : decode cX5_goClose 59 = .ok (.aload_n 0, 1) := by decide +kernel
theorem dX5_goClose_60 : decode cX5_goClose 60 = .ok (.getfield 7, 3) := by decide +kernel
theorem dX5_goClose_63 : decode cX5_goClose 63 = .ok (.iconst 3, 1) := by decide +kernel
theorem dX5_goClose_64 : decode cX5_goClose 64 = .ok (.iaload, 1) := by decide +kernel
theorem dX5_goClose_65 : decode cX5_goClose 65 = .ok (.if_icmp .ge 33, 3) := by decide +kernel
theorem dX5_goClose_68 : decode cX5_goClose 68 = .ok (.aload_n 0, 1) := by decide +kernel
theorem dX5_goClose_69 : decode cX5_goClose 69 = .ok (.getfield 7, 3) := by decide +kernel
theorem dX5_goClose_72 : decode cX5_goClose 72 = .ok (.iload_n 2, 1) := by decide +kernel
theorem dX5_goClose_73 : decode cX5_goClose 73 = .ok (.invokestatic 34, 3) := by decide +kernel
theorem dX5_goClose_76 : decode cX5_goClose 76 = .ok (.iconst 1, 1) := by decide +kernel
theorem dX5_goClose_77 : decode cX5_goClose 77 = .ok (.iadd, 1) := by decide +kernel
theorem dX5_goClose_78 : decode cX5_goClose 78 = .ok (.aload_n 0, 1) := by decide +kernel
theorem dX5_goClose_79 : decode cX5_goClose 79 = .ok (.getfield 7, 3) := by decide +kernel
theorem dX5_goClose_82 : decode cX5_goClose 82 = .ok (.iload_n 2, 1) := by decide +kernel
theorem dX5_goClose_83 : decode cX5_goClose 83 = .ok (.invokestatic 34, 3) := by decide +kernel
theorem dX5_goClose_86 : decode cX5_goClose 86 = .ok (.iconst 2, 1) := by decide +kernel
theorem dX5_goClose_87 : decode cX5_goClose 87 = .ok (.iadd, 1) := by decide +kernel
theorem dX5_goClose_88 : decode cX5_goClose 88 = .ok (.iaload, 1) := by decide +kernel
theorem dX5_goClose_89 : decode cX5_goClose 89 = .ok (.iconst 1, 1) := by decide +kernel
theorem dX5_goClose_90 : decode cX5_goClose 90 = .ok (.iadd, 1) := by decide +kernel
theorem dX5_goClose_91 : decode cX5_goClose 91 = .ok (.iastore, 1) := by decide +kernel
theorem dX5_goClose_92 : decode cX5_goClose 92 = .ok (.iinc 2 1, 3) := by decide +kernel
theorem dX5_goClose_95 : decode cX5_goClose 95 = .ok (.goto (-37), 3) := by decide +kernel
theorem dX5_goClose_98 : decode cX5_goClose 98 = .ok (.aload_n 0, 1) := by decide +kernel
theorem dX5_goClose_99 : decode cX5_goClose 99 = .ok (.getfield 7, 3) := by decide +kernel
theorem dX5_goClose_102 : decode cX5_goClose 102 = .ok (.iconst 4, 1) := by decide +kernel
theorem dX5_goClose_103 : decode cX5_goClose 103 = .ok (.dup2, 1) := by decide +kernel
theorem dX5_goClose_104 : decode cX5_goClose 104 = .ok (.iaload, 1) := by decide +kernel
theorem dX5_goClose_105 : decode cX5_goClose 105 = .ok (.iconst 1, 1) := by decide +kernel
theorem dX5_goClose_106 : decode cX5_goClose 106 = .ok (.iadd, 1) := by decide +kernel
theorem dX5_goClose_107 : decode cX5_goClose 107 = .ok (.iastore, 1) := by decide +kernel
theorem dX5_goClose_108 : decode cX5_goClose 108 = .ok (.iload_n 1, 1) := by decide +kernel
theorem dX5_goClose_109 : decode cX5_goClose 109 = .ok (.ireturn, 1) := by decide +kernel
set_option maxRecDepth 20000 in
theorem ggX5_close_X5_record : GoodIn wsX5_close wsX5_record := goodIn_r _ [5, 6, 7, 8, 23, 24, 25, 26, 27, 28, 29, 30, 31, 32, 33] (by decide +kernel) (by decide +kernel)
set_option maxRecDepth 20000 in
theorem gX5_close_X5_record : GoodIn wsX5_close (wsV RX5 37 RX5 yX5_record wsX5_record) := goodIn_app (goodIn_of _ (by decide +kernel)) ggX5_close_X5_record
set_option maxRecDepth 20000 in
theorem ggX5_close_X5_goClose : GoodIn wsX5_close wsX5_goClose := goodIn_r _ [12, 8, 13, 14, 4, 15, 16, 17, 18, 19, 20, 21, 22, 23, 24, 25, 26, 27, 28, 29, 30, 31, 32, 33] (by decide +kernel) (by decide +kernel)
set_option maxRecDepth 20000 in
theorem gX5_close_X5_goClose : GoodIn wsX5_close (wsV RX5 88 RX5 yX5_goClose wsX5_goClose) := goodIn_app (goodIn_of _ (by decide +kernel)) ggX5_close_X5_goClose
theorem dX5_close_0 : decode cX5_close 0 = .ok (.aload_n 0, 1) := by decide +kernel
theorem dX5_close_1 : decode cX5_close 1 = .ok (.invokevirtual 37, 3) := by decide +kernel
theorem dX5_close_4 : decode cX5_close 4 = .ok (.aload_n 0, 1) := by decide +kernel
theorem dX5_close_5 : decode cX5_close 5 = .ok (.invokevirtual 88, 3) := by decide +kernel
theorem dX5_close_8 : decode cX5_close 8 = .ok (.ireturn, 1) := by decide +kernel
set_option maxRecDepth 20000 in
theorem ggX5_set_X5_in : GoodIn wsX5_set wsX5_in := goodIn_r _ [5] (by decide +kernel) (by decide +kernel)
set_option maxRecDepth 20000 in
theorem gX5_set_X5_in : GoodIn wsX5_set (va_wsS RX5 30 yX5_in wsX5_in) := goodIn_app (goodIn_of _ (by decide +kernel)) ggX5_set_X5_in
set_option maxRecDepth 20000 in
theorem ggX5_set_X5_record : GoodIn wsX5_set wsX5_record := goodIn_r _ [9, 10, 11, 1, 12, 13, 14, 15, 16, 17, 18, 19, 20, 21, 22] (by decide +kernel) (by decide +kernel)
set_option maxRecDepth 20000 in
theorem gX5_set_X5_record : GoodIn wsX5_set (wsV RX5 37 RX5 yX5_record wsX5_record) := goodIn_app (goodIn_of _ (by decide +kernel)) ggX5_set_X5_record
theorem dX5_set_0 : decode cX5_set 0 = .ok (.iload_n 1, 1) := by decide +kernel
theorem dX5_set_1 : decode cX5_set 1 = .ok (.ifCond .ne 13, 3) := by decide +kernel
theorem dX5_set_4 : decode cX5_set 4 = .ok (.iload_n 2, 1) := by decide +kernel
theorem dX5_set_5 : decode cX5_set 5 = .ok (.iconst 1, 1) := by decide +kernel
theorem dX5_set_6 : decode cX5_set 6 = .ok (.bipush 50, 2) := by decide +kernel
theorem dX5_set_8 : decode cX5_set 8 = .ok (.invokestatic 30, 3) := by decide +kernel
theorem dX5_set_11 : decode cX5_set 11 = .ok (.goto 37, 3) := by decide +kernel
theorem dX5_set_14 : decode cX5_set 14 = .ok (.iload_n 1, 1) := by decide +kernel
theorem dX5_set_15 : decode cX5_set 15 = .ok (.iconst 1, 1) := by decide +kernel
theorem dX5_set_16 : decode cX5_set 16 = .ok (.if_icmp .ne 12, 3) := by decide +kernel
theorem dX5_set_19 : decode cX5_set 19 = .ok (.iload_n 2, 1) := by decide +kernel
theorem dX5_set_20 : decode cX5_set 20 = .ok (.iconst 0, 1) := by decide +kernel
theorem dX5_set_21 : decode cX5_set 21 = .ok (.iconst 1, 1) := by decide +kernel
theorem dX5_set_22 : decode cX5_set 22 = .ok (.invokestatic 30, 3) := by decide +kernel
theorem dX5_set_25 : decode cX5_set 25 = .ok (.goto 23, 3) := by decide +kernel
theorem dX5_set_28 : decode cX5_set 28 = .ok (.iload_n 1, 1) := by decide +kernel
theorem dX5_set_29 : decode cX5_set 29 = .ok (.iconst 2, 1) := by decide +kernel
theorem dX5_set_30 : decode cX5_set 30 = .ok (.if_icmp .ne 17, 3) := by decide +kernel
theorem dX5_set_33 : decode cX5_set 33 = .ok (.iload_n 2, 1) := by decide +kernel
theorem dX5_set_34 : decode cX5_set 34 = .ok (.iconst 2, 1) := by decide +kernel
theorem dX5_set_35 : decode cX5_set 35 = .ok (.bipush 10, 2) := by decide +kernel
theorem dX5_set_37 : decode cX5_set 37 = .ok (.invokestatic 30, 3) := by decide +kernel
theorem dX5_set_40 : decode cX5_set 40 = .ok (.ifCond .eq 7, 3) := by decide +kernel
theorem dX5_set_43 : decode cX5_set 43 = .ok (.iconst 1, 1) := by decide +kernel
theorem dX5_set_44 : decode cX5_set 44 = .ok (.goto 4, 3) := by decide +kernel
theorem dX5_set_47 : decode cX5_set 47 = .ok (.iconst 0, 1) := by decide +kernel
theorem dX5_set_48 : decode cX5_set 48 = .ok (.istore_n 3, 1) := by decide +kernel
theorem dX5_set_49 : decode cX5_set 49 = .ok (.iload_n 3, 1) := by decide +kernel
theorem dX5_set_50 : decode cX5_set 50 = .ok (.ifCond .ne 5, 3) := by decide +kernel
theorem dX5_set_53 : decode cX5_set 53 = .ok (.iconst (-1), 1) := by decide +kernel
theorem dX5_set_54 : decode cX5_set 54 = .ok (.ireturn, 1) := by decide +kernel
theorem dX5_set_55 : decode cX5_set 55 = .ok (.aload_n 0, 1) := by decide +kernel
theorem dX5_set_56 : decode cX5_set 56 = .ok (.invokevirtual 37, 3) := by decide +kernel
theorem dX5_set_59 : decode cX5_set 59 = .ok (.aload_n 0, 1) := by decide +kernel
theorem dX5_set_60 : decode cX5_set 60 = .ok (.getfield 7, 3) := by decide +kernel
theorem dX5_set_63 : decode cX5_set 63 = .ok (.iload_n 1, 1) := by decide +kernel
theorem dX5_set_64 : decode cX5_set 64 = .ok (.iaload, 1) := by decide +kernel
theorem dX5_set_65 : decode cX5_set 65 = .ok (.istore 4, 2) := by decide +kernel
theorem dX5_set_67 : decode cX5_set 67 = .ok (.aload_n 0, 1) := by decide +kernel
theorem dX5_set_68 : decode cX5_set 68 = .ok (.getfield 7, 3) := by decide +kernel
theorem dX5_set_71 : decode cX5_set 71 = .ok (.iload_n 1, 1) := by decide +kernel
theorem dX5_set_72 : decode cX5_set 72 = .ok (.iload_n 2, 1) := by decide +kernel
theorem dX5_set_73 : decode cX5_set 73 = .ok (.iastore, 1) := by decide +kernel
theorem dX5_set_74 : decode cX5_set 74 = .ok (.iload 4, 2) := by decide +kernel
theorem dX5_set_76 : decode cX5_set 76 = .ok (.ireturn, 1) := by decide +kernel
set_option maxRecDepth 20000 in
theorem ggX5_isLate_X5_n : GoodIn wsX5_isLate wsX5_n := goodIn_r _ [5] (by decide +kernel) (by decide +kernel)
set_option maxRecDepth 20000 in
theorem gX5_isLate_X5_n : GoodIn wsX5_isLate (va_wsS RX5 22 yX5_n wsX5_n) := goodIn_app (goodIn_of _ (by decide +kernel)) ggX5_isLate_X5_n
theorem dX5_isLate_0 : decode cX5_isLate 0 = .ok (.iconst 0, 1) := by decide +kernel
theorem dX5_isLate_1 : decode cX5_isLate 1 = .ok (.istore_n 2, 1) := by decide +kernel
theorem dX5_isLate_2 : decode cX5_isLate 2 = .ok (.iload_n 1, 1) := by decide +kernel
theorem dX5_isLate_3 : decode cX5_isLate 3 = .ok (.iconst 1, 1) := by decide +kernel
theorem dX5_isLate_4 : decode cX5_isLate 4 = .ok (.iadd, 1) := by decide +kernel
theorem dX5_isLate_5 : decode cX5_isLate 5 = .ok (.istore_n 3, 1) := by decide +kernel
theorem dX5_isLate_6 : decode cX5_isLate 6 = .ok (.iload_n 3, 1) := by decide +kernel
theorem dX5_isLate_7 : decode cX5_isLate 7 = .ok (.sipush 600, 3) := by decide +kernel
theorem dX5_isLate_10 : decode cX5_isLate 10 = .ok (.if_icmp .gt 56, 3) := by decide +kernel
theorem dX5_isLate_13 : decode cX5_isLate 13 = .ok (.iload_n 2, 1) := by decide +kernel
theorem dX5_isLate_14 : decode cX5_isLate 14 = .ok (.aload_n 0, 1) := by decide +kernel
theorem dX5_isLate_15 : decode cX5_isLate 15 = .ok (.getfield 7, 3) := by decide +kernel
theorem dX5_isLate_18 : decode cX5_isLate 18 = .ok (.iload_n 3, 1) := by decide +kernel
theorem dX5_isLate_19 : decode cX5_isLate 19 = .ok (.invokestatic 22, 3) := by decide +kernel
theorem dX5_isLate_22 : decode cX5_isLate 22 = .ok (.iconst 2, 1) := by decide +kernel
theorem dX5_isLate_23 : decode cX5_isLate 23 = .ok (.iadd, 1) := by decide +kernel
theorem dX5_isLate_24 : decode cX5_isLate 24 = .ok (.iaload, 1) := by decide +kernel
theorem dX5_isLate_25 : decode cX5_isLate 25 = .ok (.ifCond .lt 32, 3) := by decide +kernel
theorem dX5_isLate_28 : decode cX5_isLate 28 = .ok (.aload_n 0, 1) := by decide +kernel
theorem dX5_isLate_29 : decode cX5_isLate 29 = .ok (.getfield 7, 3) := by decide +kernel
theorem dX5_isLate_32 : decode cX5_isLate 32 = .ok (.iload_n 3, 1) := by decide +kernel
theorem dX5_isLate_33 : decode cX5_isLate 33 = .ok (.invokestatic 22, 3) := by decide +kernel
theorem dX5_isLate_36 : decode cX5_isLate 36 = .ok (.iconst 2, 1) := by decide +kernel
theorem dX5_isLate_37 : decode cX5_isLate 37 = .ok (.iadd, 1) := by decide +kernel
theorem dX5_isLate_38 : decode cX5_isLate 38 = .ok (.iaload, 1) := by decide +kernel
theorem dX5_isLate_39 : decode cX5_isLate 39 = .ok (.aload_n 0, 1) := by decide +kernel
theorem dX5_isLate_40 : decode cX5_isLate 40 = .ok (.getfield 7, 3) := by decide +kernel
theorem dX5_isLate_43 : decode cX5_isLate 43 = .ok (.iload_n 1, 1) := by decide +kernel
theorem dX5_isLate_44 : decode cX5_isLate 44 = .ok (.invokestatic 22, 3) := by decide +kernel
theorem dX5_isLate_47 : decode cX5_isLate 47 = .ok (.iconst 2, 1) := by decide +kernel
theorem dX5_isLate_48 : decode cX5_isLate 48 = .ok (.iadd, 1) := by decide +kernel
theorem dX5_isLate_49 : decode cX5_isLate 49 = .ok (.iaload, 1) := by decide +kernel
theorem dX5_isLate_50 : decode cX5_isLate 50 = .ok (.if_icmp .ge 7, 3) := by decide +kernel
theorem dX5_isLate_53 : decode cX5_isLate 53 = .ok (.iconst 1, 1) := by decide +kernel
theorem dX5_isLate_54 : decode cX5_isLate 54 = .ok (.goto 4, 3) := by decide +kernel
theorem dX5_isLate_57 : decode cX5_isLate 57 = .ok (.iconst 0, 1) := by decide +kernel
theorem dX5_isLate_58 : decode cX5_isLate 58 = .ok (.ior, 1) := by decide +kernel
theorem dX5_isLate_59 : decode cX5_isLate 59 = .ok (.istore_n 2, 1) := by decide +kernel
theorem dX5_isLate_60 : decode cX5_isLate 60 = .ok (.iinc 3 1, 3) := by decide +kernel
theorem dX5_isLate_63 : decode cX5_isLate 63 = .ok (.goto (-57), 3) := by decide +kernel
theorem dX5_isLate_66 : decode cX5_isLate 66 = .ok (.iload_n 2, 1) := by decide +kernel
theorem dX5_isLate_67 : decode cX5_isLate 67 = .ok (.ireturn, 1) := by decide +kernel
set_option maxRecDepth 20000 in
theorem ggX5_numberOf_X5_isNumber : GoodIn wsX5_numberOf wsX5_isNumber := goodIn_r _ [5, 6, 7, 4, 8] (by decide +kernel) (by decide +kernel)
set_option maxRecDepth 20000 in
theorem gX5_numberOf_X5_isNumber : GoodIn wsX5_numberOf (va_wsS RX5 85 yX5_isNumber wsX5_isNumber) := goodIn_app (goodIn_of _ (by decide +kernel)) ggX5_numberOf_X5_isNumber
set_option maxRecDepth 20000 in
theorem ggX5_numberOf_X5_in : GoodIn wsX5_numberOf wsX5_in := goodIn_r _ [8] (by decide +kernel) (by decide +kernel)
set_option maxRecDepth 20000 in
theorem gX5_numberOf_X5_in : GoodIn wsX5_numberOf (va_wsS RX5 30 yX5_in wsX5_in) := goodIn_app (goodIn_of _ (by decide +kernel)) ggX5_numberOf_X5_in
set_option maxRecDepth 20000 in
theorem ggX5_numberOf_X5_n : GoodIn wsX5_numberOf wsX5_n := goodIn_r _ [11] (by decide +kernel) (by decide +kernel)
set_option maxRecDepth 20000 in
theorem gX5_numberOf_X5_n : GoodIn wsX5_numberOf (va_wsS RX5 22 yX5_n wsX5_n) := goodIn_app (goodIn_of _ (by decide +kernel)) ggX5_numberOf_X5_n
set_option maxRecDepth 20000 in
theorem ggX5_numberOf_X5_isLate : GoodIn wsX5_numberOf wsX5_isLate := goodIn_r _ [15, 1, 9, 10, 4, 11, 16, 17, 18, 19, 20, 21, 22, 23, 24, 25, 26] (by decide +kernel) (by decide +kernel)
set_option maxRecDepth 20000 in
theorem gX5_numberOf_X5_isLate : GoodIn wsX5_numberOf (wsV RX5 91 RX5 yX5_isLate wsX5_isLate) := goodIn_app (goodIn_of _ (by decide +kernel)) ggX5_numberOf_X5_isLate
theorem dX5_numberOf_0 : decode cX5_numberOf 0 = .ok (.iload_n 1, 1) := by decide +kernel
theorem dX5_numberOf_1 : decode cX5_numberOf 1 = .ok (.invokestatic 85, 3) := by decide +kernel
theorem dX5_numberOf_4 : decode cX5_numberOf 4 = .ok (.ifCond .eq 12, 3) := by decide +kernel
theorem dX5_numberOf_7 : decode cX5_numberOf 7 = .ok (.iload_n 2, 1) := by decide +kernel
theorem dX5_numberOf_8 : decode cX5_numberOf 8 = .ok (.iconst 0, 1) := by decide +kernel
theorem dX5_numberOf_9 : decode cX5_numberOf 9 = .ok (.iconst 5, 1) := by decide +kernel
theorem dX5_numberOf_10 : decode cX5_numberOf 10 = .ok (.invokestatic 30, 3) := by decide +kernel
theorem dX5_numberOf_13 : decode cX5_numberOf 13 = .ok (.ifCond .ne 5, 3) := by decide +kernel
theorem dX5_numberOf_16 : decode cX5_numberOf 16 = .ok (.iconst (-1), 1) := by decide +kernel
theorem dX5_numberOf_17 : decode cX5_numberOf 17 = .ok (.ireturn, 1) := by decide +kernel
theorem dX5_numberOf_18 : decode cX5_numberOf 18 = .ok (.iload_n 1, 1) := by decide +kernel
theorem dX5_numberOf_19 : decode cX5_numberOf 19 = .ok (.invokestatic 22, 3) := by decide +kernel
theorem dX5_numberOf_22 : decode cX5_numberOf 22 = .ok (.istore_n 3, 1) := by decide +kernel
theorem dX5_numberOf_23 : decode cX5_numberOf 23 = .ok (.aload_n 0, 1) := by decide +kernel
theorem dX5_numberOf_24 : decode cX5_numberOf 24 = .ok (.getfield 7, 3) := by decide +kernel
theorem dX5_numberOf_27 : decode cX5_numberOf 27 = .ok (.iload_n 3, 1) := by decide +kernel
theorem dX5_numberOf_28 : decode cX5_numberOf 28 = .ok (.iconst 2, 1) := by decide +kernel
theorem dX5_numberOf_29 : decode cX5_numberOf 29 = .ok (.iadd, 1) := by decide +kernel
theorem dX5_numberOf_30 : decode cX5_numberOf 30 = .ok (.iaload, 1) := by decide +kernel
theorem dX5_numberOf_31 : decode cX5_numberOf 31 = .ok (.ifCond .lt 7, 3) := by decide +kernel
theorem dX5_numberOf_34 : decode cX5_numberOf 34 = .ok (.iconst 1, 1) := by decide +kernel
theorem dX5_numberOf_35 : decode cX5_numberOf 35 = .ok (.goto 4, 3) := by decide +kernel
theorem dX5_numberOf_38 : decode cX5_numberOf 38 = .ok (.iconst 0, 1) := by decide +kernel
theorem dX5_numberOf_39 : decode cX5_numberOf 39 = .ok (.istore 4, 2) := by decide +kernel
theorem dX5_numberOf_41 : decode cX5_numberOf 41 = .ok (.iload_n 2, 1) := by decide +kernel
theorem dX5_numberOf_42 : decode cX5_numberOf 42 = .ok (.tableswitch 132 0 4 #[34, 43, 68, 87, 106], 34) := by decide +kernel
theorem dX5_numberOf_76 : decode cX5_numberOf 76 = .ok (.aload_n 0, 1) := by decide +kernel
theorem dX5_numberOf_77 : decode cX5_numberOf 77 = .ok (.getfield 7, 3) := by decide +kernel
theorem dX5_numberOf_80 : decode cX5_numberOf 80 = .ok (.iload_n 3, 1) := by decide +kernel
theorem dX5_numberOf_81 : decode cX5_numberOf 81 = .ok (.iconst 0, 1) := by decide +kernel
theorem dX5_numberOf_82 : decode cX5_numberOf 82 = .ok (.iadd, 1) := by decide +kernel
theorem dX5_numberOf_83 : decode cX5_numberOf 83 = .ok (.iaload, 1) := by decide +kernel
theorem dX5_numberOf_84 : decode cX5_numberOf 84 = .ok (.ireturn, 1) := by decide +kernel
theorem dX5_numberOf_85 : decode cX5_numberOf 85 = .ok (.aload_n 0, 1) := by decide +kernel
theorem dX5_numberOf_86 : decode cX5_numberOf 86 = .ok (.getfield 7, 3) := by decide +kernel
theorem dX5_numberOf_89 : decode cX5_numberOf 89 = .ok (.iload_n 3, 1) := by decide +kernel
theorem dX5_numberOf_90 : decode cX5_numberOf 90 = .ok (.iconst 1, 1) := by decide +kernel
theorem dX5_numberOf_91 : decode cX5_numberOf 91 = .ok (.iadd, 1) := by decide +kernel
theorem dX5_numberOf_92 : decode cX5_numberOf 92 = .ok (.iaload, 1) := by decide +kernel
theorem dX5_numberOf_93 : decode cX5_numberOf 93 = .ok (.ifCond .ge 8, 3) := by decide +kernel
theorem dX5_numberOf_96 : decode cX5_numberOf 96 = .ok (.bipush (-4), 2) := by decide +kernel
theorem dX5_numberOf_98 : decode cX5_numberOf 98 = .ok (.goto 11, 3) := by decide +kernel
theorem dX5_numberOf_101 : decode cX5_numberOf 101 = .ok (.aload_n 0, 1) := by decide +kernel
theorem dX5_numberOf_102 : decode cX5_numberOf 102 = .ok (.getfield 7, 3) := by decide +kernel
theorem dX5_numberOf_105 : decode cX5_numberOf 105 = .ok (.iload_n 3, 1) := by decide +kernel
theorem dX5_numberOf_106 : decode cX5_numberOf 106 = .ok (.iconst 1, 1) := by decide +kernel
theorem dX5_numberOf_107 : decode cX5_numberOf 107 = .ok (.iadd, 1) := by decide +kernel
theorem dX5_numberOf_108 : decode cX5_numberOf 108 = .ok (.iaload, 1) := by decide +kernel
theorem dX5_numberOf_109 : decode cX5_numberOf 109 = .ok (.ireturn, 1) := by decide +kernel
theorem dX5_numberOf_110 : decode cX5_numberOf 110 = .ok (.iload 4, 2) := by decide +kernel
theorem dX5_numberOf_112 : decode cX5_numberOf 112 = .ok (.ifCond .eq 14, 3) := by decide +kernel
theorem dX5_numberOf_115 : decode cX5_numberOf 115 = .ok (.aload_n 0, 1) := by decide +kernel
theorem dX5_numberOf_116 : decode cX5_numberOf 116 = .ok (.getfield 7, 3) := by decide +kernel
theorem dX5_numberOf_119 : decode cX5_numberOf 119 = .ok (.iload_n 3, 1) := by decide +kernel
theorem dX5_numberOf_120 : decode cX5_numberOf 120 = .ok (.iconst 2, 1) := by decide +kernel
theorem dX5_numberOf_121 : decode cX5_numberOf 121 = .ok (.iadd, 1) := by decide +kernel
theorem dX5_numberOf_122 : decode cX5_numberOf 122 = .ok (.iaload, 1) := by decide +kernel
theorem dX5_numberOf_123 : decode cX5_numberOf 123 = .ok (.goto 5, 3) := by decide +kernel
theorem dX5_numberOf_126 : decode cX5_numberOf 126 = .ok (.bipush (-4), 2) := by decide +kernel
theorem dX5_numberOf_128 : decode cX5_numberOf 128 = .ok (.ireturn, 1) := by decide +kernel
theorem dX5_numberOf_129 : decode cX5_numberOf 129 = .ok (.iload 4, 2) := by decide +kernel
theorem dX5_numberOf_131 : decode cX5_numberOf 131 = .ok (.ifCond .eq 14, 3) := by decide +kernel
theorem dX5_numberOf_134 : decode cX5_numberOf 134 = .ok (.aload_n 0, 1) := by decide +kernel
theorem dX5_numberOf_135 : decode cX5_numberOf 135 = .ok (.getfield 7, 3) := by decide +kernel
theorem dX5_numberOf_138 : decode cX5_numberOf 138 = .ok (.iload_n 3, 1) := by decide +kernel
theorem dX5_numberOf_139 : decode cX5_numberOf 139 = .ok (.iconst 3, 1) := by decide +kernel
theorem dX5_numberOf_140 : decode cX5_numberOf 140 = .ok (.iadd, 1) := by decide +kernel
theorem dX5_numberOf_141 : decode cX5_numberOf 141 = .ok (.iaload, 1) := by decide +kernel
theorem dX5_numberOf_142 : decode cX5_numberOf 142 = .ok (.goto 5, 3) := by decide +kernel
theorem dX5_numberOf_145 : decode cX5_numberOf 145 = .ok (.bipush (-4), 2) := by decide +kernel
theorem dX5_numberOf_147 : decode cX5_numberOf 147 = .ok (.ireturn, 1) := by decide +kernel
theorem dX5_numberOf_148 : decode cX5_numberOf 148 = .ok (.aload_n 0, 1) := by decide +kernel
theorem dX5_numberOf_149 : decode cX5_numberOf 149 = .ok (.getfield 7, 3) := by decide +kernel
theorem dX5_numberOf_152 : decode cX5_numberOf 152 = .ok (.iload_n 3, 1) := by decide +kernel
theorem dX5_numberOf_153 : decode cX5_numberOf 153 = .ok (.iconst 0, 1) := by decide +kernel
theorem dX5_numberOf_154 : decode cX5_numberOf 154 = .ok (.iadd, 1) := by decide +kernel
theorem dX5_numberOf_155 : decode cX5_numberOf 155 = .ok (.iaload, 1) := by decide +kernel
theorem dX5_numberOf_156 : decode cX5_numberOf 156 = .ok (.iconst 4, 1) := by decide +kernel
theorem dX5_numberOf_157 : decode cX5_numberOf 157 = .ok (.if_icmp .ne 14, 3) := by decide +kernel
theorem dX5_numberOf_160 : decode cX5_numberOf 160 = .ok (.aload_n 0, 1) := by decide +kernel
theorem dX5_numberOf_161 : decode cX5_numberOf 161 = .ok (.getfield 7, 3) := by decide +kernel
theorem dX5_numberOf_164 : decode cX5_numberOf 164 = .ok (.iload_n 3, 1) := by decide +kernel
theorem dX5_numberOf_165 : decode cX5_numberOf 165 = .ok (.iconst 4, 1) := by decide +kernel
theorem dX5_numberOf_166 : decode cX5_numberOf 166 = .ok (.iadd, 1) := by decide +kernel
theorem dX5_numberOf_167 : decode cX5_numberOf 167 = .ok (.iaload, 1) := by decide +kernel
theorem dX5_numberOf_168 : decode cX5_numberOf 168 = .ok (.goto 5, 3) := by decide +kernel
theorem dX5_numberOf_171 : decode cX5_numberOf 171 = .ok (.bipush (-4), 2) := by decide +kernel
theorem dX5_numberOf_173 : decode cX5_numberOf 173 = .ok (.ireturn, 1) := by decide +kernel
theorem dX5_numberOf_174 : decode cX5_numberOf 174 = .ok (.iload 4, 2) := by decide +kernel
theorem dX5_numberOf_176 : decode cX5_numberOf 176 = .ok (.ifCond .ne 8, 3) := by decide +kernel
theorem dX5_numberOf_179 : decode cX5_numberOf 179 = .ok (.bipush (-4), 2) := by decide +kernel
theorem dX5_numberOf_181 : decode cX5_numberOf 181 = .ok (.goto 16, 3) := by decide +kernel
theorem dX5_numberOf_184 : decode cX5_numberOf 184 = .ok (.aload_n 0, 1) := by decide +kernel
theorem dX5_numberOf_185 : decode cX5_numberOf 185 = .ok (.iload_n 1, 1) := by decide +kernel
theorem dX5_numberOf_186 : decode cX5_numberOf 186 = .ok (.invokevirtual 91, 3) := by decide +kernel
theorem dX5_numberOf_189 : decode cX5_numberOf 189 = .ok (.ifCond .eq 7, 3) := by decide +kernel
theorem dX5_numberOf_192 : decode cX5_numberOf 192 = .ok (.iconst 1, 1) := by decide +kernel
theorem dX5_numberOf_193 : decode cX5_numberOf 193 = .ok (.goto 4, 3) := by decide +kernel
theorem dX5_numberOf_196 : decode cX5_numberOf 196 = .ok (.iconst 0, 1) := by decide +kernel
theorem dX5_numberOf_197 : decode cX5_numberOf 197 = .ok (.ireturn, 1) := by decide +kernel
set_option maxRecDepth 20000 in
theorem ggX5_holesOf_X5_n : GoodIn wsX5_holesOf wsX5_n := goodIn_r _ [5] (by decide +kernel) (by decide +kernel)
set_option maxRecDepth 20000 in
theorem gX5_holesOf_X5_n : GoodIn wsX5_holesOf (va_wsS RX5 22 yX5_n wsX5_n) := goodIn_app (goodIn_of _ (by decide +kernel)) ggX5_holesOf_X5_n
theorem dX5_holesOf_0 : decode cX5_holesOf 0 = .ok (.iconst 0, 1) := by decide +kernel
theorem dX5_holesOf_1 : decode cX5_holesOf 1 = .ok (.istore_n 3, 1) := by decide +kernel
theorem dX5_holesOf_2 : decode cX5_holesOf 2 = .ok (.iconst 1, 1) := by decide +kernel
theorem dX5_holesOf_3 : decode cX5_holesOf 3 = .ok (.istore 4, 2) := by decide +kernel
theorem dX5_holesOf_5 : decode cX5_holesOf 5 = .ok (.iload 4, 2) := by decide +kernel
theorem dX5_holesOf_7 : decode cX5_holesOf 7 = .ok (.sipush 600, 3) := by decide +kernel
theorem dX5_holesOf_10 : decode cX5_holesOf 10 = .ok (.if_icmp .gt 81, 3) := by decide +kernel
theorem dX5_holesOf_13 : decode cX5_holesOf 13 = .ok (.aload_n 0, 1) := by decide +kernel
theorem dX5_holesOf_14 : decode cX5_holesOf 14 = .ok (.getfield 7, 3) := by decide +kernel
theorem dX5_holesOf_17 : decode cX5_holesOf 17 = .ok (.iload 4, 2) := by decide +kernel
theorem dX5_holesOf_19 : decode cX5_holesOf 19 = .ok (.invokestatic 22, 3) := by decide +kernel
theorem dX5_holesOf_22 : decode cX5_holesOf 22 = .ok (.iconst 0, 1) := by decide +kernel
theorem dX5_holesOf_23 : decode cX5_holesOf 23 = .ok (.iadd, 1) := by decide +kernel
theorem dX5_holesOf_24 : decode cX5_holesOf 24 = .ok (.iaload, 1) := by decide +kernel
theorem dX5_holesOf_25 : decode cX5_holesOf 25 = .ok (.iconst 4, 1) := by decide +kernel
theorem dX5_holesOf_26 : decode cX5_holesOf 26 = .ok (.if_icmp .ne 23, 3) := by decide +kernel
theorem dX5_holesOf_29 : decode cX5_holesOf 29 = .ok (.aload_n 0, 1) := by decide +kernel
theorem dX5_holesOf_30 : decode cX5_holesOf 30 = .ok (.getfield 7, 3) := by decide +kernel
theorem dX5_holesOf_33 : decode cX5_holesOf 33 = .ok (.iload 4, 2) := by decide +kernel
theorem dX5_holesOf_35 : decode cX5_holesOf 35 = .ok (.invokestatic 22, 3) := by decide +kernel
theorem dX5_holesOf_38 : decode cX5_holesOf 38 = .ok (.iconst 1, 1) := by decide +kernel
theorem dX5_holesOf_39 : decode cX5_holesOf 39 = .ok (.iadd, 1) := by decide +kernel
theorem dX5_holesOf_40 : decode cX5_holesOf 40 = .ok (.iaload, 1) := by decide +kernel
theorem dX5_holesOf_41 : decode cX5_holesOf 41 = .ok (.iload_n 1, 1) := by decide +kernel
theorem dX5_holesOf_42 : decode cX5_holesOf 42 = .ok (.if_icmp .ne 7, 3) := by decide +kernel
theorem dX5_holesOf_45 : decode cX5_holesOf 45 = .ok (.iconst 1, 1) := by decide +kernel
theorem dX5_holesOf_46 : decode cX5_holesOf 46 = .ok (.goto 4, 3) := by decide +kernel
theorem dX5_holesOf_49 : decode cX5_holesOf 49 = .ok (.iconst 0, 1) := by decide +kernel
theorem dX5_holesOf_50 : decode cX5_holesOf 50 = .ok (.istore 5, 2) := by decide +kernel
theorem dX5_holesOf_52 : decode cX5_holesOf 52 = .ok (.iload_n 3, 1) := by decide +kernel
theorem dX5_holesOf_53 : decode cX5_holesOf 53 = .ok (.iload 5, 2) := by decide +kernel
theorem dX5_holesOf_55 : decode cX5_holesOf 55 = .ok (.ifCond .eq 27, 3) := by decide +kernel
theorem dX5_holesOf_58 : decode cX5_holesOf 58 = .ok (.iload_n 2, 1) := by decide +kernel
theorem dX5_holesOf_59 : decode cX5_holesOf 59 = .ok (.ifCond .lt 19, 3) := by decide +kernel
theorem dX5_holesOf_62 : decode cX5_holesOf 62 = .ok (.aload_n 0, 1) := by decide +kernel
theorem dX5_holesOf_63 : decode cX5_holesOf 63 = .ok (.getfield 7, 3) := by decide +kernel
theorem dX5_holesOf_66 : decode cX5_holesOf 66 = .ok (.iload 4, 2) := by decide +kernel
theorem dX5_holesOf_68 : decode cX5_holesOf 68 = .ok (.invokestatic 22, 3) := by decide +kernel
theorem dX5_holesOf_71 : decode cX5_holesOf 71 = .ok (.iconst 4, 1) := by decide +kernel
theorem dX5_holesOf_72 : decode cX5_holesOf 72 = .ok (.iadd, 1) := by decide +kernel
theorem dX5_holesOf_73 : decode cX5_holesOf 73 = .ok (.iaload, 1) := by decide +kernel
theorem dX5_holesOf_74 : decode cX5_holesOf 74 = .ok (.iload_n 2, 1) := by decide +kernel
theorem dX5_holesOf_75 : decode cX5_holesOf 75 = .ok (.if_icmp .ne 7, 3) := by decide +kernel
theorem dX5_holesOf_78 : decode cX5_holesOf 78 = .ok (.iconst 1, 1) := by decide +kernel
theorem dX5_holesOf_79 : decode cX5_holesOf 79 = .ok (.goto 4, 3) := by decide +kernel
theorem dX5_holesOf_82 : decode cX5_holesOf 82 = .ok (.iconst 0, 1) := by decide +kernel
theorem dX5_holesOf_83 : decode cX5_holesOf 83 = .ok (.iadd, 1) := by decide +kernel
theorem dX5_holesOf_84 : decode cX5_holesOf 84 = .ok (.istore_n 3, 1) := by decide +kernel
theorem dX5_holesOf_85 : decode cX5_holesOf 85 = .ok (.iinc 4 1, 3) := by decide +kernel
theorem dX5_holesOf_88 : decode cX5_holesOf 88 = .ok (.goto (-83), 3) := by decide +kernel
theorem dX5_holesOf_91 : decode cX5_holesOf 91 = .ok (.iload_n 3, 1) := by decide +kernel
theorem dX5_holesOf_92 : decode cX5_holesOf 92 = .ok (.ireturn, 1) := by decide +kernel
set_option maxRecDepth 20000 in
theorem ggX5_clerkOf_X5_isClerk : GoodIn wsX5_clerkOf wsX5_isClerk := goodIn_r _ [6, 1, 7, 8, 5, 9, 24, 25, 26, 27, 28, 29, 30, 31, 32, 33, 34] (by decide +kernel) (by decide +kernel)
set_option maxRecDepth 20000 in
theorem gX5_clerkOf_X5_isClerk : GoodIn wsX5_clerkOf (wsV RX5 63 RX5 yX5_isClerk wsX5_isClerk) := goodIn_app (goodIn_of _ (by decide +kernel)) ggX5_clerkOf_X5_isClerk
set_option maxRecDepth 20000 in
theorem ggX5_clerkOf_X5_in : GoodIn wsX5_clerkOf wsX5_in := goodIn_r _ [9] (by decide +kernel) (by decide +kernel)
set_option maxRecDepth 20000 in
theorem gX5_clerkOf_X5_in : GoodIn wsX5_clerkOf (va_wsS RX5 30 yX5_in wsX5_in) := goodIn_app (goodIn_of _ (by decide +kernel)) ggX5_clerkOf_X5_in
set_option maxRecDepth 20000 in
theorem ggX5_clerkOf_X5_c : GoodIn wsX5_clerkOf wsX5_c := goodIn_r _ [12] (by decide +kernel) (by decide +kernel)
set_option maxRecDepth 20000 in
theorem gX5_clerkOf_X5_c : GoodIn wsX5_clerkOf (va_wsS RX5 34 yX5_c wsX5_c) := goodIn_app (goodIn_of _ (by decide +kernel)) ggX5_clerkOf_X5_c
set_option maxRecDepth 20000 in
theorem ggX5_clerkOf_X5_holds : GoodIn wsX5_clerkOf wsX5_holds := goodIn_r _ [16, 1, 10, 11, 5, 12, 24, 25, 26, 27, 28, 29, 30, 31, 32, 33, 34] (by decide +kernel) (by decide +kernel)
set_option maxRecDepth 20000 in
theorem gX5_clerkOf_X5_holds : GoodIn wsX5_clerkOf (wsV RX5 50 RX5 yX5_holds wsX5_holds) := goodIn_app (goodIn_of _ (by decide +kernel)) ggX5_clerkOf_X5_holds
set_option maxRecDepth 20000 in
theorem ggX5_clerkOf_X5_holesOf : GoodIn wsX5_clerkOf wsX5_holesOf := goodIn_r _ [20, 1, 21, 22, 5, 23, 24, 25, 26, 27, 28, 29, 30, 31, 32, 33, 34] (by decide +kernel) (by decide +kernel)
set_option maxRecDepth 20000 in
theorem gX5_clerkOf_X5_holesOf : GoodIn wsX5_clerkOf (wsV RX5 94 RX5 yX5_holesOf wsX5_holesOf) := goodIn_app (goodIn_of _ (by decide +kernel)) ggX5_clerkOf_X5_holesOf
theorem dX5_clerkOf_0 : decode cX5_clerkOf 0 = .ok (.aload_n 0, 1) := by decide +kernel
theorem dX5_clerkOf_1 : decode cX5_clerkOf 1 = .ok (.iload_n 1, 1) := by decide +kernel
theorem dX5_clerkOf_2 : decode cX5_clerkOf 2 = .ok (.invokevirtual 63, 3) := by decide +kernel
theorem dX5_clerkOf_5 : decode cX5_clerkOf 5 = .ok (.ifCond .eq 13, 3) := by decide +kernel
theorem dX5_clerkOf_8 : decode cX5_clerkOf 8 = .ok (.iload_n 2, 1) := by decide +kernel
theorem dX5_clerkOf_9 : decode cX5_clerkOf 9 = .ok (.iconst 0, 1) := by decide +kernel
theorem dX5_clerkOf_10 : decode cX5_clerkOf 10 = .ok (.bipush 9, 2) := by decide +kernel
theorem dX5_clerkOf_12 : decode cX5_clerkOf 12 = .ok (.invokestatic 30, 3) := by decide +kernel
theorem dX5_clerkOf_15 : decode cX5_clerkOf 15 = .ok (.ifCond .ne 5, 3) := by decide +kernel
theorem dX5_clerkOf_18 : decode cX5_clerkOf 18 = .ok (.iconst (-1), 1) := by decide +kernel
theorem dX5_clerkOf_19 : decode cX5_clerkOf 19 = .ok (.ireturn, 1) := by decide +kernel
theorem dX5_clerkOf_20 : decode cX5_clerkOf 20 = .ok (.iload_n 1, 1) := by decide +kernel
theorem dX5_clerkOf_21 : decode cX5_clerkOf 21 = .ok (.invokestatic 34, 3) := by decide +kernel
theorem dX5_clerkOf_24 : decode cX5_clerkOf 24 = .ok (.istore_n 3, 1) := by decide +kernel
theorem dX5_clerkOf_25 : decode cX5_clerkOf 25 = .ok (.iload_n 2, 1) := by decide +kernel
theorem dX5_clerkOf_26 : decode cX5_clerkOf 26 = .ok (.iconst 1, 1) := by decide +kernel
theorem dX5_clerkOf_27 : decode cX5_clerkOf 27 = .ok (.if_icmp .le 19, 3) := by decide +kernel
theorem dX5_clerkOf_30 : decode cX5_clerkOf 30 = .ok (.iload_n 2, 1) := by decide +kernel
theorem dX5_clerkOf_31 : decode cX5_clerkOf 31 = .ok (.iconst 5, 1) := by decide +kernel
theorem dX5_clerkOf_32 : decode cX5_clerkOf 32 = .ok (.if_icmp .ge 14, 3) := by decide +kernel
theorem dX5_clerkOf_35 : decode cX5_clerkOf 35 = .ok (.aload_n 0, 1) := by decide +kernel
theorem dX5_clerkOf_36 : decode cX5_clerkOf 36 = .ok (.iload_n 1, 1) := by decide +kernel
theorem dX5_clerkOf_37 : decode cX5_clerkOf 37 = .ok (.invokevirtual 50, 3) := by decide +kernel
theorem dX5_clerkOf_40 : decode cX5_clerkOf 40 = .ok (.ifCond .ne 6, 3) := by decide +kernel
theorem dX5_clerkOf_43 : decode cX5_clerkOf 43 = .ok (.bipush (-4), 2) := by decide +kernel
theorem dX5_clerkOf_45 : decode cX5_clerkOf 45 = .ok (.ireturn, 1) := by decide +kernel
theorem dX5_clerkOf_46 : decode cX5_clerkOf 46 = .ok (.iload_n 2, 1) := by decide +kernel
theorem dX5_clerkOf_47 : decode cX5_clerkOf 47 = .ok (.tableswitch 123 0 8 #[49, 58, 64, 73, 82, 91, 100, 107, 114], 49) := by decide +kernel
theorem dX5_clerkOf_96 : decode cX5_clerkOf 96 = .ok (.aload_n 0, 1) := by decide +kernel
theorem dX5_clerkOf_97 : decode cX5_clerkOf 97 = .ok (.getfield 7, 3) := by decide +kernel
theorem dX5_clerkOf_100 : decode cX5_clerkOf 100 = .ok (.iload_n 3, 1) := by decide +kernel
theorem dX5_clerkOf_101 : decode cX5_clerkOf 101 = .ok (.iconst 0, 1) := by decide +kernel
theorem dX5_clerkOf_102 : decode cX5_clerkOf 102 = .ok (.iadd, 1) := by decide +kernel
theorem dX5_clerkOf_103 : decode cX5_clerkOf 103 = .ok (.iaload, 1) := by decide +kernel
theorem dX5_clerkOf_104 : decode cX5_clerkOf 104 = .ok (.ireturn, 1) := by decide +kernel
theorem dX5_clerkOf_105 : decode cX5_clerkOf 105 = .ok (.aload_n 0, 1) := by decide +kernel
theorem dX5_clerkOf_106 : decode cX5_clerkOf 106 = .ok (.iload_n 1, 1) := by decide +kernel
theorem dX5_clerkOf_107 : decode cX5_clerkOf 107 = .ok (.invokevirtual 50, 3) := by decide +kernel
theorem dX5_clerkOf_110 : decode cX5_clerkOf 110 = .ok (.ireturn, 1) := by decide +kernel
theorem dX5_clerkOf_111 : decode cX5_clerkOf 111 = .ok (.aload_n 0, 1) := by decide +kernel
theorem dX5_clerkOf_112 : decode cX5_clerkOf 112 = .ok (.getfield 7, 3) := by decide +kernel
theorem dX5_clerkOf_115 : decode cX5_clerkOf 115 = .ok (.iload_n 3, 1) := by decide +kernel
theorem dX5_clerkOf_116 : decode cX5_clerkOf 116 = .ok (.iconst 1, 1) := by decide +kernel
theorem dX5_clerkOf_117 : decode cX5_clerkOf 117 = .ok (.iadd, 1) := by decide +kernel
theorem dX5_clerkOf_118 : decode cX5_clerkOf 118 = .ok (.iaload, 1) := by decide +kernel
theorem dX5_clerkOf_119 : decode cX5_clerkOf 119 = .ok (.ireturn, 1) := by decide +kernel
theorem dX5_clerkOf_120 : decode cX5_clerkOf 120 = .ok (.aload_n 0, 1) := by decide +kernel
theorem dX5_clerkOf_121 : decode cX5_clerkOf 121 = .ok (.getfield 7, 3) := by decide +kernel
theorem dX5_clerkOf_124 : decode cX5_clerkOf 124 = .ok (.iload_n 3, 1) := by decide +kernel
theorem dX5_clerkOf_125 : decode cX5_clerkOf 125 = .ok (.iconst 2, 1) := by decide +kernel
theorem dX5_clerkOf_126 : decode cX5_clerkOf 126 = .ok (.iadd, 1) := by decide +kernel
theorem dX5_clerkOf_127 : decode cX5_clerkOf 127 = .ok (.iaload, 1) := by decide +kernel
theorem dX5_clerkOf_128 : decode cX5_clerkOf 128 = .ok (.ireturn, 1) := by decide +kernel
theorem dX5_clerkOf_129 : decode cX5_clerkOf 129 = .ok (.aload_n 0, 1) := by decide +kernel
theorem dX5_clerkOf_130 : decode cX5_clerkOf 130 = .ok (.getfield 7, 3) := by decide +kernel
theorem dX5_clerkOf_133 : decode cX5_clerkOf 133 = .ok (.iload_n 3, 1) := by decide +kernel
theorem dX5_clerkOf_134 : decode cX5_clerkOf 134 = .ok (.iconst 3, 1) := by decide +kernel
theorem dX5_clerkOf_135 : decode cX5_clerkOf 135 = .ok (.iadd, 1) := by decide +kernel
theorem dX5_clerkOf_136 : decode cX5_clerkOf 136 = .ok (.iaload, 1) := by decide +kernel
theorem dX5_clerkOf_137 : decode cX5_clerkOf 137 = .ok (.ireturn, 1) := by decide +kernel
theorem dX5_clerkOf_138 : decode cX5_clerkOf 138 = .ok (.aload_n 0, 1) := by decide +kernel
theorem dX5_clerkOf_139 : decode cX5_clerkOf 139 = .ok (.getfield 7, 3) := by decide +kernel
theorem dX5_clerkOf_142 : decode cX5_clerkOf 142 = .ok (.iload_n 3, 1) := by decide +kernel
theorem dX5_clerkOf_143 : decode cX5_clerkOf 143 = .ok (.iconst 4, 1) := by decide +kernel
theorem dX5_clerkOf_144 : decode cX5_clerkOf 144 = .ok (.iadd, 1) := by decide +kernel
theorem dX5_clerkOf_145 : decode cX5_clerkOf 145 = .ok (.iaload, 1) := by decide +kernel
theorem dX5_clerkOf_146 : decode cX5_clerkOf 146 = .ok (.ireturn, 1) := by decide +kernel
theorem dX5_clerkOf_147 : decode cX5_clerkOf 147 = .ok (.aload_n 0, 1) := by decide +kernel
theorem dX5_clerkOf_148 : decode cX5_clerkOf 148 = .ok (.iload_n 1, 1) := by decide +kernel
theorem dX5_clerkOf_149 : decode cX5_clerkOf 149 = .ok (.iconst (-1), 1) := by decide +kernel
theorem dX5_clerkOf_150 : decode cX5_clerkOf 150 = .ok (.invokevirtual 94, 3) := by decide +kernel
theorem dX5_clerkOf_153 : decode cX5_clerkOf 153 = .ok (.ireturn, 1) := by decide +kernel
theorem dX5_clerkOf_154 : decode cX5_clerkOf 154 = .ok (.aload_n 0, 1) := by decide +kernel
theorem dX5_clerkOf_155 : decode cX5_clerkOf 155 = .ok (.iload_n 1, 1) := by decide +kernel
theorem dX5_clerkOf_156 : decode cX5_clerkOf 156 = .ok (.iconst 0, 1) := by decide +kernel
theorem dX5_clerkOf_157 : decode cX5_clerkOf 157 = .ok (.invokevirtual 94, 3) := by decide +kernel
theorem dX5_clerkOf_160 : decode cX5_clerkOf 160 = .ok (.ireturn, 1) := by decide +kernel
theorem dX5_clerkOf_161 : decode cX5_clerkOf 161 = .ok (.aload_n 0, 1) := by decide +kernel
theorem dX5_clerkOf_162 : decode cX5_clerkOf 162 = .ok (.getfield 7, 3) := by decide +kernel
theorem dX5_clerkOf_165 : decode cX5_clerkOf 165 = .ok (.iload_n 3, 1) := by decide +kernel
theorem dX5_clerkOf_166 : decode cX5_clerkOf 166 = .ok (.iconst 5, 1) := by decide +kernel
theorem dX5_clerkOf_167 : decode cX5_clerkOf 167 = .ok (.iadd, 1) := by decide +kernel
theorem dX5_clerkOf_168 : decode cX5_clerkOf 168 = .ok (.iaload, 1) := by decide +kernel
theorem dX5_clerkOf_169 : decode cX5_clerkOf 169 = .ok (.ireturn, 1) := by decide +kernel
theorem dX5_clerkOf_170 : decode cX5_clerkOf 170 = .ok (.aload_n 0, 1) := by decide +kernel
theorem dX5_clerkOf_171 : decode cX5_clerkOf 171 = .ok (.getfield 7, 3) := by decide +kernel
theorem dX5_clerkOf_174 : decode cX5_clerkOf 174 = .ok (.iload_n 3, 1) := by decide +kernel
theorem dX5_clerkOf_175 : decode cX5_clerkOf 175 = .ok (.iconst 4, 1) := by decide +kernel
theorem dX5_clerkOf_176 : decode cX5_clerkOf 176 = .ok (.iadd, 1) := by decide +kernel
theorem dX5_clerkOf_177 : decode cX5_clerkOf 177 = .ok (.iaload, 1) := by decide +kernel
end
section
theorem dX5_clerkOf_178 : decode cX5_clerkOf 178 = .ok (.ifCond .ne 8, 3) := by decide +kernel
theorem dX5_clerkOf_181 : decode cX5_clerkOf 181 = .ok (.bipush (-4), 2) := by decide +kernel
theorem dX5_clerkOf_183 : decode cX5_clerkOf 183 = .ok (.goto 12, 3) := by decide +kernel
theorem dX5_clerkOf_186 : decode cX5_clerkOf 186 = .ok (.aload_n 0, 1) := by decide +kernel
theorem dX5_clerkOf_187 : decode cX5_clerkOf 187 = .ok (.getfield 7, 3) := by decide +kernel
theorem dX5_clerkOf_190 : decode cX5_clerkOf 190 = .ok (.iload_n 3, 1) := by decide +kernel
theorem dX5_clerkOf_191 : decode cX5_clerkOf 191 = .ok (.bipush 6, 2) := by decide +kernel
theorem dX5_clerkOf_193 : decode cX5_clerkOf 193 = .ok (.iadd, 1) := by decide +kernel
theorem dX5_clerkOf_194 : decode cX5_clerkOf 194 = .ok (.iaload, 1) := by decide +kernel
theorem dX5_clerkOf_195 : decode cX5_clerkOf 195 = .ok (.ireturn, 1) := by decide +kernel
set_option maxRecDepth 20000 in
theorem ggX5_goesOn_X5_n : GoodIn wsX5_goesOn wsX5_n := goodIn_r _ [5] (by decide +kernel) (by decide +kernel)
set_option maxRecDepth 20000 in
theorem gX5_goesOn_X5_n : GoodIn wsX5_goesOn (va_wsS RX5 22 yX5_n wsX5_n) := goodIn_app (goodIn_of _ (by decide +kernel)) ggX5_goesOn_X5_n
theorem dX5_goesOn_0 : decode cX5_goesOn 0 = .ok (.iload_n 1, 1) := by decide +kernel
theorem dX5_goesOn_1 : decode cX5_goesOn 1 = .ok (.iconst 1, 1) := by decide +kernel
theorem dX5_goesOn_2 : decode cX5_goesOn 2 = .ok (.if_icmp .le 39, 3) := by decide +kernel
theorem dX5_goesOn_5 : decode cX5_goesOn 5 = .ok (.aload_n 0, 1) := by decide +kernel
theorem dX5_goesOn_6 : decode cX5_goesOn 6 = .ok (.getfield 7, 3) := by decide +kernel
theorem dX5_goesOn_9 : decode cX5_goesOn 9 = .ok (.iload_n 1, 1) := by decide +kernel
theorem dX5_goesOn_10 : decode cX5_goesOn 10 = .ok (.invokestatic 22, 3) := by decide +kernel
theorem dX5_goesOn_13 : decode cX5_goesOn 13 = .ok (.iconst 0, 1) := by decide +kernel
theorem dX5_goesOn_14 : decode cX5_goesOn 14 = .ok (.iadd, 1) := by decide +kernel
theorem dX5_goesOn_15 : decode cX5_goesOn 15 = .ok (.iaload, 1) := by decide +kernel
theorem dX5_goesOn_16 : decode cX5_goesOn 16 = .ok (.iload_n 2, 1) := by decide +kernel
theorem dX5_goesOn_17 : decode cX5_goesOn 17 = .ok (.if_icmp .ne 24, 3) := by decide +kernel
theorem dX5_goesOn_20 : decode cX5_goesOn 20 = .ok (.aload_n 0, 1) := by decide +kernel
theorem dX5_goesOn_21 : decode cX5_goesOn 21 = .ok (.getfield 7, 3) := by decide +kernel
theorem dX5_goesOn_24 : decode cX5_goesOn 24 = .ok (.iload_n 1, 1) := by decide +kernel
theorem dX5_goesOn_25 : decode cX5_goesOn 25 = .ok (.iconst 1, 1) := by decide +kernel
theorem dX5_goesOn_26 : decode cX5_goesOn 26 = .ok (.isub, 1) := by decide +kernel
theorem dX5_goesOn_27 : decode cX5_goesOn 27 = .ok (.invokestatic 22, 3) := by decide +kernel
theorem dX5_goesOn_30 : decode cX5_goesOn 30 = .ok (.iconst 0, 1) := by decide +kernel
theorem dX5_goesOn_31 : decode cX5_goesOn 31 = .ok (.iadd, 1) := by decide +kernel
theorem dX5_goesOn_32 : decode cX5_goesOn 32 = .ok (.iaload, 1) := by decide +kernel
theorem dX5_goesOn_33 : decode cX5_goesOn 33 = .ok (.iload_n 2, 1) := by decide +kernel
theorem dX5_goesOn_34 : decode cX5_goesOn 34 = .ok (.if_icmp .ne 7, 3) := by decide +kernel
theorem dX5_goesOn_37 : decode cX5_goesOn 37 = .ok (.iconst 1, 1) := by decide +kernel
theorem dX5_goesOn_38 : decode cX5_goesOn 38 = .ok (.goto 4, 3) := by decide +kernel
theorem dX5_goesOn_41 : decode cX5_goesOn 41 = .ok (.iconst 0, 1) := by decide +kernel
theorem dX5_goesOn_42 : decode cX5_goesOn 42 = .ok (.istore_n 3, 1) := by decide +kernel
theorem dX5_goesOn_43 : decode cX5_goesOn 43 = .ok (.iload_n 3, 1) := by decide +kernel
theorem dX5_goesOn_44 : decode cX5_goesOn 44 = .ok (.ifCond .eq 66, 3) := by decide +kernel
theorem dX5_goesOn_47 : decode cX5_goesOn 47 = .ok (.iload_n 2, 1) := by decide +kernel
theorem dX5_goesOn_48 : decode cX5_goesOn 48 = .ok (.iconst 3, 1) := by decide +kernel
theorem dX5_goesOn_49 : decode cX5_goesOn 49 = .ok (.if_icmp .eq 57, 3) := by decide +kernel
theorem dX5_goesOn_52 : decode cX5_goesOn 52 = .ok (.aload_n 0, 1) := by decide +kernel
theorem dX5_goesOn_53 : decode cX5_goesOn 53 = .ok (.getfield 7, 3) := by decide +kernel
theorem dX5_goesOn_56 : decode cX5_goesOn 56 = .ok (.iload_n 1, 1) := by decide +kernel
theorem dX5_goesOn_57 : decode cX5_goesOn 57 = .ok (.invokestatic 22, 3) := by decide +kernel
theorem dX5_goesOn_60 : decode cX5_goesOn 60 = .ok (.iconst 4, 1) := by decide +kernel
theorem dX5_goesOn_61 : decode cX5_goesOn 61 = .ok (.iadd, 1) := by decide +kernel
theorem dX5_goesOn_62 : decode cX5_goesOn 62 = .ok (.iaload, 1) := by decide +kernel
theorem dX5_goesOn_63 : decode cX5_goesOn 63 = .ok (.aload_n 0, 1) := by decide +kernel
theorem dX5_goesOn_64 : decode cX5_goesOn 64 = .ok (.getfield 7, 3) := by decide +kernel
theorem dX5_goesOn_67 : decode cX5_goesOn 67 = .ok (.iload_n 1, 1) := by decide +kernel
theorem dX5_goesOn_68 : decode cX5_goesOn 68 = .ok (.iconst 1, 1) := by decide +kernel
theorem dX5_goesOn_69 : decode cX5_goesOn 69 = .ok (.isub, 1) := by decide +kernel
theorem dX5_goesOn_70 : decode cX5_goesOn 70 = .ok (.invokestatic 22, 3) := by decide +kernel
theorem dX5_goesOn_73 : decode cX5_goesOn 73 = .ok (.iconst 4, 1) := by decide +kernel
theorem dX5_goesOn_74 : decode cX5_goesOn 74 = .ok (.iadd, 1) := by decide +kernel
theorem dX5_goesOn_75 : decode cX5_goesOn 75 = .ok (.iaload, 1) := by decide +kernel
theorem dX5_goesOn_76 : decode cX5_goesOn 76 = .ok (.if_icmp .ne 34, 3) := by decide +kernel
theorem dX5_goesOn_79 : decode cX5_goesOn 79 = .ok (.aload_n 0, 1) := by decide +kernel
theorem dX5_goesOn_80 : decode cX5_goesOn 80 = .ok (.getfield 7, 3) := by decide +kernel
theorem dX5_goesOn_83 : decode cX5_goesOn 83 = .ok (.iload_n 1, 1) := by decide +kernel
theorem dX5_goesOn_84 : decode cX5_goesOn 84 = .ok (.invokestatic 22, 3) := by decide +kernel
theorem dX5_goesOn_87 : decode cX5_goesOn 87 = .ok (.iconst 1, 1) := by decide +kernel
theorem dX5_goesOn_88 : decode cX5_goesOn 88 = .ok (.iadd, 1) := by decide +kernel
theorem dX5_goesOn_89 : decode cX5_goesOn 89 = .ok (.iaload, 1) := by decide +kernel
theorem dX5_goesOn_90 : decode cX5_goesOn 90 = .ok (.aload_n 0, 1) := by decide +kernel
theorem dX5_goesOn_91 : decode cX5_goesOn 91 = .ok (.getfield 7, 3) := by decide +kernel
theorem dX5_goesOn_94 : decode cX5_goesOn 94 = .ok (.iload_n 1, 1) := by decide +kernel
theorem dX5_goesOn_95 : decode cX5_goesOn 95 = .ok (.iconst 1, 1) := by decide +kernel
theorem dX5_goesOn_96 : decode cX5_goesOn 96 = .ok (.isub, 1) := by decide +kernel
theorem dX5_goesOn_97 : decode cX5_goesOn 97 = .ok (.invokestatic 22, 3) := by decide +kernel
theorem dX5_goesOn_100 : decode cX5_goesOn 100 = .ok (.iconst 1, 1) := by decide +kernel
theorem dX5_goesOn_101 : decode cX5_goesOn 101 = .ok (.iadd, 1) := by decide +kernel
theorem dX5_goesOn_102 : decode cX5_goesOn 102 = .ok (.iaload, 1) := by decide +kernel
theorem dX5_goesOn_103 : decode cX5_goesOn 103 = .ok (.if_icmp .ne 7, 3) := by decide +kernel
theorem dX5_goesOn_106 : decode cX5_goesOn 106 = .ok (.iconst 1, 1) := by decide +kernel
theorem dX5_goesOn_107 : decode cX5_goesOn 107 = .ok (.goto 4, 3) := by decide +kernel
theorem dX5_goesOn_110 : decode cX5_goesOn 110 = .ok (.iconst 0, 1) := by decide +kernel
theorem dX5_goesOn_111 : decode cX5_goesOn 111 = .ok (.ireturn, 1) := by decide +kernel
set_option maxRecDepth 20000 in
theorem ggX5_rowAt_X5_n : GoodIn wsX5_rowAt wsX5_n := goodIn_r _ [5] (by decide +kernel) (by decide +kernel)
set_option maxRecDepth 20000 in
theorem gX5_rowAt_X5_n : GoodIn wsX5_rowAt (va_wsS RX5 22 yX5_n wsX5_n) := goodIn_app (goodIn_of _ (by decide +kernel)) ggX5_rowAt_X5_n
set_option maxRecDepth 20000 in
theorem ggX5_rowAt_X5_goesOn : GoodIn wsX5_rowAt wsX5_goesOn := goodIn_r _ [9, 1, 2, 3, 4, 5, 10, 11, 12, 13, 14, 15, 16, 17, 18, 19, 20] (by decide +kernel) (by decide +kernel)
set_option maxRecDepth 20000 in
theorem gX5_rowAt_X5_goesOn : GoodIn wsX5_rowAt (wsV RX5 97 RX5 yX5_goesOn wsX5_goesOn) := goodIn_app (goodIn_of _ (by decide +kernel)) ggX5_rowAt_X5_goesOn
theorem dX5_rowAt_0 : decode cX5_rowAt 0 = .ok (.iload_n 1, 1) := by decide +kernel
theorem dX5_rowAt_1 : decode cX5_rowAt 1 = .ok (.istore_n 3, 1) := by decide +kernel
theorem dX5_rowAt_2 : decode cX5_rowAt 2 = .ok (.iconst 1, 1) := by decide +kernel
theorem dX5_rowAt_3 : decode cX5_rowAt 3 = .ok (.istore 4, 2) := by decide +kernel
theorem dX5_rowAt_5 : decode cX5_rowAt 5 = .ok (.iload 4, 2) := by decide +kernel
theorem dX5_rowAt_7 : decode cX5_rowAt 7 = .ok (.sipush 600, 3) := by decide +kernel
theorem dX5_rowAt_10 : decode cX5_rowAt 10 = .ok (.if_icmp .gt 45, 3) := by decide +kernel
theorem dX5_rowAt_13 : decode cX5_rowAt 13 = .ok (.aload_n 0, 1) := by decide +kernel
theorem dX5_rowAt_14 : decode cX5_rowAt 14 = .ok (.getfield 7, 3) := by decide +kernel
theorem dX5_rowAt_17 : decode cX5_rowAt 17 = .ok (.iload 4, 2) := by decide +kernel
theorem dX5_rowAt_19 : decode cX5_rowAt 19 = .ok (.invokestatic 22, 3) := by decide +kernel
theorem dX5_rowAt_22 : decode cX5_rowAt 22 = .ok (.iconst 0, 1) := by decide +kernel
theorem dX5_rowAt_23 : decode cX5_rowAt 23 = .ok (.iadd, 1) := by decide +kernel
theorem dX5_rowAt_24 : decode cX5_rowAt 24 = .ok (.iaload, 1) := by decide +kernel
theorem dX5_rowAt_25 : decode cX5_rowAt 25 = .ok (.iload_n 2, 1) := by decide +kernel
theorem dX5_rowAt_26 : decode cX5_rowAt 26 = .ok (.if_icmp .ne 23, 3) := by decide +kernel
theorem dX5_rowAt_29 : decode cX5_rowAt 29 = .ok (.aload_n 0, 1) := by decide +kernel
theorem dX5_rowAt_30 : decode cX5_rowAt 30 = .ok (.iload 4, 2) := by decide +kernel
theorem dX5_rowAt_32 : decode cX5_rowAt 32 = .ok (.iload_n 2, 1) := by decide +kernel
theorem dX5_rowAt_33 : decode cX5_rowAt 33 = .ok (.invokevirtual 97, 3) := by decide +kernel
theorem dX5_rowAt_36 : decode cX5_rowAt 36 = .ok (.ifCond .ne 13, 3) := by decide +kernel
theorem dX5_rowAt_39 : decode cX5_rowAt 39 = .ok (.iload_n 3, 1) := by decide +kernel
theorem dX5_rowAt_40 : decode cX5_rowAt 40 = .ok (.ifCond .ne 6, 3) := by decide +kernel
theorem dX5_rowAt_43 : decode cX5_rowAt 43 = .ok (.iload 4, 2) := by decide +kernel
theorem dX5_rowAt_45 : decode cX5_rowAt 45 = .ok (.ireturn, 1) := by decide +kernel
theorem dX5_rowAt_46 : decode cX5_rowAt 46 = .ok (.iinc 3 (-1), 3) := by decide +kernel
theorem dX5_rowAt_49 : decode cX5_rowAt 49 = .ok (.iinc 4 1, 3) := by decide +kernel
theorem dX5_rowAt_52 : decode cX5_rowAt 52 = .ok (.goto (-47), 3) := by decide +kernel
theorem dX5_rowAt_55 : decode cX5_rowAt 55 = .ok (.sipush 601, 3) := by decide +kernel
theorem dX5_rowAt_58 : decode cX5_rowAt 58 = .ok (.ireturn, 1) := by decide +kernel
set_option maxRecDepth 20000 in
theorem ggX5_endOf_X5_goesOn : GoodIn wsX5_endOf wsX5_goesOn := goodIn_r _ [5, 6, 7, 8, 4, 9, 10, 11, 12, 13, 14, 15, 16, 17, 18, 19, 20] (by decide +kernel) (by decide +kernel)
set_option maxRecDepth 20000 in
theorem gX5_endOf_X5_goesOn : GoodIn wsX5_endOf (wsV RX5 97 RX5 yX5_goesOn wsX5_goesOn) := goodIn_app (goodIn_of _ (by decide +kernel)) ggX5_endOf_X5_goesOn
theorem dX5_endOf_0 : decode cX5_endOf 0 = .ok (.iload_n 1, 1) := by decide +kernel
theorem dX5_endOf_1 : decode cX5_endOf 1 = .ok (.istore_n 3, 1) := by decide +kernel
theorem dX5_endOf_2 : decode cX5_endOf 2 = .ok (.iload_n 3, 1) := by decide +kernel
theorem dX5_endOf_3 : decode cX5_endOf 3 = .ok (.sipush 600, 3) := by decide +kernel
theorem dX5_endOf_6 : decode cX5_endOf 6 = .ok (.if_icmp .ge 20, 3) := by decide +kernel
theorem dX5_endOf_9 : decode cX5_endOf 9 = .ok (.aload_n 0, 1) := by decide +kernel
theorem dX5_endOf_10 : decode cX5_endOf 10 = .ok (.iload_n 3, 1) := by decide +kernel
theorem dX5_endOf_11 : decode cX5_endOf 11 = .ok (.iconst 1, 1) := by decide +kernel
theorem dX5_endOf_12 : decode cX5_endOf 12 = .ok (.iadd, 1) := by decide +kernel
theorem dX5_endOf_13 : decode cX5_endOf 13 = .ok (.iload_n 2, 1) := by decide +kernel
theorem dX5_endOf_14 : decode cX5_endOf 14 = .ok (.invokevirtual 97, 3) := by decide +kernel
theorem dX5_endOf_17 : decode cX5_endOf 17 = .ok (.ifCond .eq 9, 3) := by decide +kernel
theorem dX5_endOf_20 : decode cX5_endOf 20 = .ok (.iinc 3 1, 3) := by decide +kernel
theorem dX5_endOf_23 : decode cX5_endOf 23 = .ok (.goto (-21), 3) := by decide +kernel
theorem dX5_endOf_26 : decode cX5_endOf 26 = .ok (.iload_n 3, 1) := by decide +kernel
theorem dX5_endOf_27 : decode cX5_endOf 27 = .ok (.ireturn, 1) := by decide +kernel
set_option maxRecDepth 20000 in
theorem ggX5_holesAt_X5_in : GoodIn wsX5_holesAt wsX5_in := goodIn_r _ [5] (by decide +kernel) (by decide +kernel)
set_option maxRecDepth 20000 in
theorem gX5_holesAt_X5_in : GoodIn wsX5_holesAt (va_wsS RX5 30 yX5_in wsX5_in) := goodIn_app (goodIn_of _ (by decide +kernel)) ggX5_holesAt_X5_in
set_option maxRecDepth 20000 in
theorem ggX5_holesAt_X5_rowAt : GoodIn wsX5_holesAt wsX5_rowAt := goodIn_r _ [9, 1, 10, 11, 4, 12, 13, 14, 15, 16, 21, 22, 23, 24, 25, 26, 27, 28, 29, 30, 31] (by decide +kernel) (by decide +kernel)
set_option maxRecDepth 20000 in
theorem gX5_holesAt_X5_rowAt : GoodIn wsX5_holesAt (wsV RX5 100 RX5 yX5_rowAt wsX5_rowAt) := goodIn_app (goodIn_of _ (by decide +kernel)) ggX5_holesAt_X5_rowAt
set_option maxRecDepth 20000 in
theorem ggX5_holesAt_X5_endOf : GoodIn wsX5_holesAt wsX5_endOf := goodIn_r _ [20, 13, 14, 15, 4, 16, 1, 10, 11, 12, 21, 22, 23, 24, 25, 26, 27, 28, 29, 30, 31] (by decide +kernel) (by decide +kernel)
set_option maxRecDepth 20000 in
theorem gX5_holesAt_X5_endOf : GoodIn wsX5_holesAt (wsV RX5 103 RX5 yX5_endOf wsX5_endOf) := goodIn_app (goodIn_of _ (by decide +kernel)) ggX5_holesAt_X5_endOf
set_option maxRecDepth 20000 in
theorem ggX5_holesAt_X5_n : GoodIn wsX5_holesAt wsX5_n := goodIn_r _ [12] (by decide +kernel) (by decide +kernel)
set_option maxRecDepth 20000 in
theorem gX5_holesAt_X5_n : GoodIn wsX5_holesAt (va_wsS RX5 22 yX5_n wsX5_n) := goodIn_app (goodIn_of _ (by decide +kernel)) ggX5_holesAt_X5_n
theorem dX5_holesAt_0 : decode cX5_holesAt 0 = .ok (.iload_n 1, 1) := by decide +kernel
theorem dX5_holesAt_1 : decode cX5_holesAt 1 = .ok (.ifCond .lt 12, 3) := by decide +kernel
theorem dX5_holesAt_4 : decode cX5_holesAt 4 = .ok (.iload_n 2, 1) := by decide +kernel
theorem dX5_holesAt_5 : decode cX5_holesAt 5 = .ok (.iconst 0, 1) := by decide +kernel
theorem dX5_holesAt_6 : decode cX5_holesAt 6 = .ok (.iconst 3, 1) := by decide +kernel
theorem dX5_holesAt_7 : decode cX5_holesAt 7 = .ok (.invokestatic 30, 3) := by decide +kernel
theorem dX5_holesAt_10 : decode cX5_holesAt 10 = .ok (.ifCond .ne 5, 3) := by decide +kernel
theorem dX5_holesAt_13 : decode cX5_holesAt 13 = .ok (.iconst (-1), 1) := by decide +kernel
theorem dX5_holesAt_14 : decode cX5_holesAt 14 = .ok (.ireturn, 1) := by decide +kernel
theorem dX5_holesAt_15 : decode cX5_holesAt 15 = .ok (.aload_n 0, 1) := by decide +kernel
theorem dX5_holesAt_16 : decode cX5_holesAt 16 = .ok (.iload_n 1, 1) := by decide +kernel
theorem dX5_holesAt_17 : decode cX5_holesAt 17 = .ok (.iconst 4, 1) := by decide +kernel
theorem dX5_holesAt_18 : decode cX5_holesAt 18 = .ok (.invokevirtual 100, 3) := by decide +kernel
theorem dX5_holesAt_21 : decode cX5_holesAt 21 = .ok (.istore_n 3, 1) := by decide +kernel
theorem dX5_holesAt_22 : decode cX5_holesAt 22 = .ok (.iload_n 3, 1) := by decide +kernel
theorem dX5_holesAt_23 : decode cX5_holesAt 23 = .ok (.sipush 600, 3) := by decide +kernel
theorem dX5_holesAt_26 : decode cX5_holesAt 26 = .ok (.if_icmp .le 6, 3) := by decide +kernel
theorem dX5_holesAt_29 : decode cX5_holesAt 29 = .ok (.bipush (-4), 2) := by decide +kernel
theorem dX5_holesAt_31 : decode cX5_holesAt 31 = .ok (.ireturn, 1) := by decide +kernel
theorem dX5_holesAt_32 : decode cX5_holesAt 32 = .ok (.iload_n 2, 1) := by decide +kernel
theorem dX5_holesAt_33 : decode cX5_holesAt 33 = .ok (.tableswitch 48 0 2 #[27, 29, 36], 27) := by decide +kernel
theorem dX5_holesAt_60 : decode cX5_holesAt 60 = .ok (.iload_n 3, 1) := by decide +kernel
theorem dX5_holesAt_61 : decode cX5_holesAt 61 = .ok (.ireturn, 1) := by decide +kernel
theorem dX5_holesAt_62 : decode cX5_holesAt 62 = .ok (.aload_n 0, 1) := by decide +kernel
theorem dX5_holesAt_63 : decode cX5_holesAt 63 = .ok (.iload_n 3, 1) := by decide +kernel
theorem dX5_holesAt_64 : decode cX5_holesAt 64 = .ok (.iconst 4, 1) := by decide +kernel
theorem dX5_holesAt_65 : decode cX5_holesAt 65 = .ok (.invokevirtual 103, 3) := by decide +kernel
theorem dX5_holesAt_68 : decode cX5_holesAt 68 = .ok (.ireturn, 1) := by decide +kernel
theorem dX5_holesAt_69 : decode cX5_holesAt 69 = .ok (.aload_n 0, 1) := by decide +kernel
theorem dX5_holesAt_70 : decode cX5_holesAt 70 = .ok (.getfield 7, 3) := by decide +kernel
theorem dX5_holesAt_73 : decode cX5_holesAt 73 = .ok (.iload_n 3, 1) := by decide +kernel
theorem dX5_holesAt_74 : decode cX5_holesAt 74 = .ok (.invokestatic 22, 3) := by decide +kernel
theorem dX5_holesAt_77 : decode cX5_holesAt 77 = .ok (.iconst 4, 1) := by decide +kernel
theorem dX5_holesAt_78 : decode cX5_holesAt 78 = .ok (.iadd, 1) := by decide +kernel
theorem dX5_holesAt_79 : decode cX5_holesAt 79 = .ok (.iaload, 1) := by decide +kernel
theorem dX5_holesAt_80 : decode cX5_holesAt 80 = .ok (.ireturn, 1) := by decide +kernel
theorem dX5_holesAt_81 : decode cX5_holesAt 81 = .ok (.aload_n 0, 1) := by decide +kernel
theorem dX5_holesAt_82 : decode cX5_holesAt 82 = .ok (.getfield 7, 3) := by decide +kernel
theorem dX5_holesAt_85 : decode cX5_holesAt 85 = .ok (.iload_n 3, 1) := by decide +kernel
theorem dX5_holesAt_86 : decode cX5_holesAt 86 = .ok (.invokestatic 22, 3) := by decide +kernel
theorem dX5_holesAt_89 : decode cX5_holesAt 89 = .ok (.iconst 1, 1) := by decide +kernel
theorem dX5_holesAt_90 : decode cX5_holesAt 90 = .ok (.iadd, 1) := by decide +kernel
theorem dX5_holesAt_91 : decode cX5_holesAt 91 = .ok (.iaload, 1) := by decide +kernel
theorem dX5_holesAt_92 : decode cX5_holesAt 92 = .ok (.ifCond .ge 8, 3) := by decide +kernel
theorem dX5_holesAt_95 : decode cX5_holesAt 95 = .ok (.bipush (-4), 2) := by decide +kernel
theorem dX5_holesAt_97 : decode cX5_holesAt 97 = .ok (.goto 14, 3) := by decide +kernel
theorem dX5_holesAt_100 : decode cX5_holesAt 100 = .ok (.aload_n 0, 1) := by decide +kernel
theorem dX5_holesAt_101 : decode cX5_holesAt 101 = .ok (.getfield 7, 3) := by decide +kernel
theorem dX5_holesAt_104 : decode cX5_holesAt 104 = .ok (.iload_n 3, 1) := by decide +kernel
theorem dX5_holesAt_105 : decode cX5_holesAt 105 = .ok (.invokestatic 22, 3) := by decide +kernel
theorem dX5_holesAt_108 : decode cX5_holesAt 108 = .ok (.iconst 1, 1) := by decide +kernel
theorem dX5_holesAt_109 : decode cX5_holesAt 109 = .ok (.iadd, 1) := by decide +kernel
theorem dX5_holesAt_110 : decode cX5_holesAt 110 = .ok (.iaload, 1) := by decide +kernel
theorem dX5_holesAt_111 : decode cX5_holesAt 111 = .ok (.ireturn, 1) := by decide +kernel
set_option maxRecDepth 20000 in
theorem ggX5_freeAt_X5_in : GoodIn wsX5_freeAt wsX5_in := goodIn_r _ [4] (by decide +kernel) (by decide +kernel)
set_option maxRecDepth 20000 in
theorem gX5_freeAt_X5_in : GoodIn wsX5_freeAt (va_wsS RX5 30 yX5_in wsX5_in) := goodIn_app (goodIn_of _ (by decide +kernel)) ggX5_freeAt_X5_in
set_option maxRecDepth 20000 in
theorem ggX5_freeAt_X5_rowAt : GoodIn wsX5_freeAt wsX5_rowAt := goodIn_r _ [8, 9, 10, 11, 3, 12, 13, 14, 15, 16, 21, 22, 23, 24, 25, 26, 27, 28, 29, 30, 31] (by decide +kernel) (by decide +kernel)
set_option maxRecDepth 20000 in
theorem gX5_freeAt_X5_rowAt : GoodIn wsX5_freeAt (wsV RX5 100 RX5 yX5_rowAt wsX5_rowAt) := goodIn_app (goodIn_of _ (by decide +kernel)) ggX5_freeAt_X5_rowAt
set_option maxRecDepth 20000 in
theorem ggX5_freeAt_X5_endOf : GoodIn wsX5_freeAt wsX5_endOf := goodIn_r _ [20, 13, 14, 15, 3, 16, 9, 10, 11, 12, 21, 22, 23, 24, 25, 26, 27, 28, 29, 30, 31] (by decide +kernel) (by decide +kernel)
set_option maxRecDepth 20000 in
theorem gX5_freeAt_X5_endOf : GoodIn wsX5_freeAt (wsV RX5 103 RX5 yX5_endOf wsX5_endOf) := goodIn_app (goodIn_of _ (by decide +kernel)) ggX5_freeAt_X5_endOf
theorem dX5_freeAt_0 : decode cX5_freeAt 0 = .ok (.iload_n 1, 1) := by decide +kernel
theorem dX5_freeAt_1 : decode cX5_freeAt 1 = .ok (.ifCond .lt 12, 3) := by decide +kernel
theorem dX5_freeAt_4 : decode cX5_freeAt 4 = .ok (.iload_n 2, 1) := by decide +kernel
theorem dX5_freeAt_5 : decode cX5_freeAt 5 = .ok (.iconst 0, 1) := by decide +kernel
theorem dX5_freeAt_6 : decode cX5_freeAt 6 = .ok (.iconst 1, 1) := by decide +kernel
theorem dX5_freeAt_7 : decode cX5_freeAt 7 = .ok (.invokestatic 30, 3) := by decide +kernel
theorem dX5_freeAt_10 : decode cX5_freeAt 10 = .ok (.ifCond .ne 5, 3) := by decide +kernel
theorem dX5_freeAt_13 : decode cX5_freeAt 13 = .ok (.iconst (-1), 1) := by decide +kernel
theorem dX5_freeAt_14 : decode cX5_freeAt 14 = .ok (.ireturn, 1) := by decide +kernel
theorem dX5_freeAt_15 : decode cX5_freeAt 15 = .ok (.aload_n 0, 1) := by decide +kernel
theorem dX5_freeAt_16 : decode cX5_freeAt 16 = .ok (.iload_n 1, 1) := by decide +kernel
theorem dX5_freeAt_17 : decode cX5_freeAt 17 = .ok (.iconst 3, 1) := by decide +kernel
theorem dX5_freeAt_18 : decode cX5_freeAt 18 = .ok (.invokevirtual 100, 3) := by decide +kernel
theorem dX5_freeAt_21 : decode cX5_freeAt 21 = .ok (.istore_n 3, 1) := by decide +kernel
theorem dX5_freeAt_22 : decode cX5_freeAt 22 = .ok (.iload_n 3, 1) := by decide +kernel
theorem dX5_freeAt_23 : decode cX5_freeAt 23 = .ok (.sipush 600, 3) := by decide +kernel
theorem dX5_freeAt_26 : decode cX5_freeAt 26 = .ok (.if_icmp .le 8, 3) := by decide +kernel
theorem dX5_freeAt_29 : decode cX5_freeAt 29 = .ok (.bipush (-4), 2) := by decide +kernel
theorem dX5_freeAt_31 : decode cX5_freeAt 31 = .ok (.goto 17, 3) := by decide +kernel
theorem dX5_freeAt_34 : decode cX5_freeAt 34 = .ok (.iload_n 2, 1) := by decide +kernel
theorem dX5_freeAt_35 : decode cX5_freeAt 35 = .ok (.ifCond .ne 7, 3) := by decide +kernel
theorem dX5_freeAt_38 : decode cX5_freeAt 38 = .ok (.iload_n 3, 1) := by decide +kernel
theorem dX5_freeAt_39 : decode cX5_freeAt 39 = .ok (.goto 9, 3) := by decide +kernel
theorem dX5_freeAt_42 : decode cX5_freeAt 42 = .ok (.aload_n 0, 1) := by decide +kernel
theorem dX5_freeAt_43 : decode cX5_freeAt 43 = .ok (.iload_n 3, 1) := by decide +kernel
theorem dX5_freeAt_44 : decode cX5_freeAt 44 = .ok (.iconst 3, 1) := by decide +kernel
theorem dX5_freeAt_45 : decode cX5_freeAt 45 = .ok (.invokevirtual 103, 3) := by decide +kernel
theorem dX5_freeAt_48 : decode cX5_freeAt 48 = .ok (.ireturn, 1) := by decide +kernel
set_option maxRecDepth 20000 in
theorem ggX5_turnAt_X5_n : GoodIn wsX5_turnAt wsX5_n := goodIn_r _ [5] (by decide +kernel) (by decide +kernel)
set_option maxRecDepth 20000 in
theorem gX5_turnAt_X5_n : GoodIn wsX5_turnAt (va_wsS RX5 22 yX5_n wsX5_n) := goodIn_app (goodIn_of _ (by decide +kernel)) ggX5_turnAt_X5_n
theorem dX5_turnAt_0 : decode cX5_turnAt 0 = .ok (.iload_n 1, 1) := by decide +kernel
theorem dX5_turnAt_1 : decode cX5_turnAt 1 = .ok (.ifCond .ge 5, 3) := by decide +kernel
theorem dX5_turnAt_4 : decode cX5_turnAt 4 = .ok (.iconst (-1), 1) := by decide +kernel
theorem dX5_turnAt_5 : decode cX5_turnAt 5 = .ok (.ireturn, 1) := by decide +kernel
theorem dX5_turnAt_6 : decode cX5_turnAt 6 = .ok (.iconst 1, 1) := by decide +kernel
theorem dX5_turnAt_7 : decode cX5_turnAt 7 = .ok (.istore_n 2, 1) := by decide +kernel
theorem dX5_turnAt_8 : decode cX5_turnAt 8 = .ok (.iload_n 2, 1) := by decide +kernel
theorem dX5_turnAt_9 : decode cX5_turnAt 9 = .ok (.sipush 600, 3) := by decide +kernel
theorem dX5_turnAt_12 : decode cX5_turnAt 12 = .ok (.if_icmp .gt 26, 3) := by decide +kernel
theorem dX5_turnAt_15 : decode cX5_turnAt 15 = .ok (.aload_n 0, 1) := by decide +kernel
theorem dX5_turnAt_16 : decode cX5_turnAt 16 = .ok (.getfield 7, 3) := by decide +kernel
theorem dX5_turnAt_19 : decode cX5_turnAt 19 = .ok (.iload_n 2, 1) := by decide +kernel
theorem dX5_turnAt_20 : decode cX5_turnAt 20 = .ok (.invokestatic 22, 3) := by decide +kernel
theorem dX5_turnAt_23 : decode cX5_turnAt 23 = .ok (.iconst 2, 1) := by decide +kernel
theorem dX5_turnAt_24 : decode cX5_turnAt 24 = .ok (.iadd, 1) := by decide +kernel
theorem dX5_turnAt_25 : decode cX5_turnAt 25 = .ok (.iaload, 1) := by decide +kernel
theorem dX5_turnAt_26 : decode cX5_turnAt 26 = .ok (.iload_n 1, 1) := by decide +kernel
theorem dX5_turnAt_27 : decode cX5_turnAt 27 = .ok (.if_icmp .ne 5, 3) := by decide +kernel
theorem dX5_turnAt_30 : decode cX5_turnAt 30 = .ok (.iload_n 2, 1) := by decide +kernel
theorem dX5_turnAt_31 : decode cX5_turnAt 31 = .ok (.ireturn, 1) := by decide +kernel
theorem dX5_turnAt_32 : decode cX5_turnAt 32 = .ok (.iinc 2 1, 3) := by decide +kernel
theorem dX5_turnAt_35 : decode cX5_turnAt 35 = .ok (.goto (-27), 3) := by decide +kernel
theorem dX5_turnAt_38 : decode cX5_turnAt 38 = .ok (.bipush (-4), 2) := by decide +kernel
theorem dX5_turnAt_40 : decode cX5_turnAt 40 = .ok (.ireturn, 1) := by decide +kernel
set_option maxRecDepth 20000 in
theorem ggX5_among_X5_isNumber : GoodIn wsX5_among wsX5_isNumber := goodIn_r _ [5, 6, 7, 4, 8] (by decide +kernel) (by decide +kernel)
set_option maxRecDepth 20000 in
theorem gX5_among_X5_isNumber : GoodIn wsX5_among (va_wsS RX5 85 yX5_isNumber wsX5_isNumber) := goodIn_app (goodIn_of _ (by decide +kernel)) ggX5_among_X5_isNumber
set_option maxRecDepth 20000 in
theorem ggX5_among_X5_in : GoodIn wsX5_among wsX5_in := goodIn_r _ [8] (by decide +kernel) (by decide +kernel)
set_option maxRecDepth 20000 in
theorem gX5_among_X5_in : GoodIn wsX5_among (va_wsS RX5 30 yX5_in wsX5_in) := goodIn_app (goodIn_of _ (by decide +kernel)) ggX5_among_X5_in
set_option maxRecDepth 20000 in
theorem ggX5_among_X5_n : GoodIn wsX5_among wsX5_n := goodIn_r _ [11] (by decide +kernel) (by decide +kernel)
set_option maxRecDepth 20000 in
theorem gX5_among_X5_n : GoodIn wsX5_among (va_wsS RX5 22 yX5_n wsX5_n) := goodIn_app (goodIn_of _ (by decide +kernel)) ggX5_among_X5_n
theorem dX5_among_0 : decode cX5_among 0 = .ok (.iload_n 1, 1) := by decide +kernel
theorem dX5_among_1 : decode cX5_among 1 = .ok (.invokestatic 85, 3) := by decide +kernel
theorem dX5_among_4 : decode cX5_among 4 = .ok (.ifCond .eq 34, 3) := by decide +kernel
theorem dX5_among_7 : decode cX5_among 7 = .ok (.iload_n 2, 1) := by decide +kernel
theorem dX5_among_8 : decode cX5_among 8 = .ok (.iload_n 1, 1) := by decide +kernel
theorem dX5_among_9 : decode cX5_among 9 = .ok (.sipush 600, 3) := by decide +kernel
theorem dX5_among_12 : decode cX5_among 12 = .ok (.invokestatic 30, 3) := by decide +kernel
theorem dX5_among_15 : decode cX5_among 15 = .ok (.ifCond .eq 23, 3) := by decide +kernel
theorem dX5_among_18 : decode cX5_among 18 = .ok (.iload_n 3, 1) := by decide +kernel
theorem dX5_among_19 : decode cX5_among 19 = .ok (.iconst 0, 1) := by decide +kernel
theorem dX5_among_20 : decode cX5_among 20 = .ok (.iconst 4, 1) := by decide +kernel
theorem dX5_among_21 : decode cX5_among 21 = .ok (.invokestatic 30, 3) := by decide +kernel
theorem dX5_among_24 : decode cX5_among 24 = .ok (.ifCond .ne 16, 3) := by decide +kernel
theorem dX5_among_27 : decode cX5_among 27 = .ok (.iload_n 3, 1) := by decide +kernel
theorem dX5_among_28 : decode cX5_among 28 = .ok (.bipush 10, 2) := by decide +kernel
theorem dX5_among_30 : decode cX5_among 30 = .ok (.bipush 13, 2) := by decide +kernel
theorem dX5_among_32 : decode cX5_among 32 = .ok (.invokestatic 30, 3) := by decide +kernel
theorem dX5_among_35 : decode cX5_among 35 = .ok (.ifCond .ne 5, 3) := by decide +kernel
theorem dX5_among_38 : decode cX5_among 38 = .ok (.iconst (-1), 1) := by decide +kernel
theorem dX5_among_39 : decode cX5_among 39 = .ok (.ireturn, 1) := by decide +kernel
theorem dX5_among_40 : decode cX5_among 40 = .ok (.iconst 0, 1) := by decide +kernel
theorem dX5_among_41 : decode cX5_among 41 = .ok (.istore 4, 2) := by decide +kernel
theorem dX5_among_43 : decode cX5_among 43 = .ok (.iload_n 1, 1) := by decide +kernel
theorem dX5_among_44 : decode cX5_among 44 = .ok (.istore 5, 2) := by decide +kernel
theorem dX5_among_46 : decode cX5_among 46 = .ok (.iload 5, 2) := by decide +kernel
theorem dX5_among_48 : decode cX5_among 48 = .ok (.iload_n 2, 1) := by decide +kernel
theorem dX5_among_49 : decode cX5_among 49 = .ok (.if_icmp .gt 78, 3) := by decide +kernel
theorem dX5_among_52 : decode cX5_among 52 = .ok (.aload_n 0, 1) := by decide +kernel
theorem dX5_among_53 : decode cX5_among 53 = .ok (.getfield 7, 3) := by decide +kernel
theorem dX5_among_56 : decode cX5_among 56 = .ok (.iload 5, 2) := by decide +kernel
theorem dX5_among_58 : decode cX5_among 58 = .ok (.invokestatic 22, 3) := by decide +kernel
theorem dX5_among_61 : decode cX5_among 61 = .ok (.iconst 0, 1) := by decide +kernel
theorem dX5_among_62 : decode cX5_among 62 = .ok (.iadd, 1) := by decide +kernel
theorem dX5_among_63 : decode cX5_among 63 = .ok (.iaload, 1) := by decide +kernel
theorem dX5_among_64 : decode cX5_among 64 = .ok (.istore 6, 2) := by decide +kernel
theorem dX5_among_66 : decode cX5_among 66 = .ok (.iload 4, 2) := by decide +kernel
theorem dX5_among_68 : decode cX5_among 68 = .ok (.iload_n 3, 1) := by decide +kernel
theorem dX5_among_69 : decode cX5_among 69 = .ok (.bipush 10, 2) := by decide +kernel
theorem dX5_among_71 : decode cX5_among 71 = .ok (.if_icmp .ge 17, 3) := by decide +kernel
theorem dX5_among_74 : decode cX5_among 74 = .ok (.iload 6, 2) := by decide +kernel
theorem dX5_among_76 : decode cX5_among 76 = .ok (.iload_n 3, 1) := by decide +kernel
theorem dX5_among_77 : decode cX5_among 77 = .ok (.if_icmp .ne 7, 3) := by decide +kernel
theorem dX5_among_80 : decode cX5_among 80 = .ok (.iconst 1, 1) := by decide +kernel
theorem dX5_among_81 : decode cX5_among 81 = .ok (.goto 37, 3) := by decide +kernel
theorem dX5_among_84 : decode cX5_among 84 = .ok (.iconst 0, 1) := by decide +kernel
theorem dX5_among_85 : decode cX5_among 85 = .ok (.goto 33, 3) := by decide +kernel
theorem dX5_among_88 : decode cX5_among 88 = .ok (.iload 6, 2) := by decide +kernel
theorem dX5_among_90 : decode cX5_among 90 = .ok (.iconst 4, 1) := by decide +kernel
theorem dX5_among_91 : decode cX5_among 91 = .ok (.if_icmp .ne 26, 3) := by decide +kernel
theorem dX5_among_94 : decode cX5_among 94 = .ok (.aload_n 0, 1) := by decide +kernel
theorem dX5_among_95 : decode cX5_among 95 = .ok (.getfield 7, 3) := by decide +kernel
theorem dX5_among_98 : decode cX5_among 98 = .ok (.iload 5, 2) := by decide +kernel
theorem dX5_among_100 : decode cX5_among 100 = .ok (.invokestatic 22, 3) := by decide +kernel
theorem dX5_among_103 : decode cX5_among 103 = .ok (.iconst 4, 1) := by decide +kernel
theorem dX5_among_104 : decode cX5_among 104 = .ok (.iadd, 1) := by decide +kernel
theorem dX5_among_105 : decode cX5_among 105 = .ok (.iaload, 1) := by decide +kernel
theorem dX5_among_106 : decode cX5_among 106 = .ok (.iload_n 3, 1) := by decide +kernel
theorem dX5_among_107 : decode cX5_among 107 = .ok (.bipush 10, 2) := by decide +kernel
theorem dX5_among_109 : decode cX5_among 109 = .ok (.isub, 1) := by decide +kernel
theorem dX5_among_110 : decode cX5_among 110 = .ok (.if_icmp .ne 7, 3) := by decide +kernel
theorem dX5_among_113 : decode cX5_among 113 = .ok (.iconst 1, 1) := by decide +kernel
theorem dX5_among_114 : decode cX5_among 114 = .ok (.goto 4, 3) := by decide +kernel
theorem dX5_among_117 : decode cX5_among 117 = .ok (.iconst 0, 1) := by decide +kernel
theorem dX5_among_118 : decode cX5_among 118 = .ok (.iadd, 1) := by decide +kernel
theorem dX5_among_119 : decode cX5_among 119 = .ok (.istore 4, 2) := by decide +kernel
theorem dX5_among_121 : decode cX5_among 121 = .ok (.iinc 5 1, 3) := by decide +kernel
theorem dX5_among_124 : decode cX5_among 124 = .ok (.goto (-78), 3) := by decide +kernel
theorem dX5_among_127 : decode cX5_among 127 = .ok (.iload 4, 2) := by decide +kernel
theorem dX5_among_129 : decode cX5_among 129 = .ok (.ireturn, 1) := by decide +kernel
set_option maxRecDepth 20000 in
theorem ggX5_lateMany_X5_n : GoodIn wsX5_lateMany wsX5_n := goodIn_r _ [5] (by decide +kernel) (by decide +kernel)
set_option maxRecDepth 20000 in
theorem gX5_lateMany_X5_n : GoodIn wsX5_lateMany (va_wsS RX5 22 yX5_n wsX5_n) := goodIn_app (goodIn_of _ (by decide +kernel)) ggX5_lateMany_X5_n
theorem dX5_lateMany_0 : decode cX5_lateMany 0 = .ok (.iconst 0, 1) := by decide +kernel
theorem dX5_lateMany_1 : decode cX5_lateMany 1 = .ok (.istore_n 1, 1) := by decide +kernel
theorem dX5_lateMany_2 : decode cX5_lateMany 2 = .ok (.aload_n 0, 1) := by decide +kernel
theorem dX5_lateMany_3 : decode cX5_lateMany 3 = .ok (.getfield 7, 3) := by decide +kernel
theorem dX5_lateMany_6 : decode cX5_lateMany 6 = .ok (.iconst 5, 1) := by decide +kernel
theorem dX5_lateMany_7 : decode cX5_lateMany 7 = .ok (.iaload, 1) := by decide +kernel
theorem dX5_lateMany_8 : decode cX5_lateMany 8 = .ok (.istore_n 2, 1) := by decide +kernel
theorem dX5_lateMany_9 : decode cX5_lateMany 9 = .ok (.sipush 600, 3) := by decide +kernel
theorem dX5_lateMany_12 : decode cX5_lateMany 12 = .ok (.istore_n 3, 1) := by decide +kernel
theorem dX5_lateMany_13 : decode cX5_lateMany 13 = .ok (.iload_n 3, 1) := by decide +kernel
theorem dX5_lateMany_14 : decode cX5_lateMany 14 = .ok (.ifCond .le 54, 3) := by decide +kernel
theorem dX5_lateMany_17 : decode cX5_lateMany 17 = .ok (.aload_n 0, 1) := by decide +kernel
theorem dX5_lateMany_18 : decode cX5_lateMany 18 = .ok (.getfield 7, 3) := by decide +kernel
theorem dX5_lateMany_21 : decode cX5_lateMany 21 = .ok (.iload_n 3, 1) := by decide +kernel
theorem dX5_lateMany_22 : decode cX5_lateMany 22 = .ok (.invokestatic 22, 3) := by decide +kernel
theorem dX5_lateMany_25 : decode cX5_lateMany 25 = .ok (.iconst 2, 1) := by decide +kernel
theorem dX5_lateMany_26 : decode cX5_lateMany 26 = .ok (.iadd, 1) := by decide +kernel
theorem dX5_lateMany_27 : decode cX5_lateMany 27 = .ok (.iaload, 1) := by decide +kernel
theorem dX5_lateMany_28 : decode cX5_lateMany 28 = .ok (.istore 4, 2) := by decide +kernel
theorem dX5_lateMany_30 : decode cX5_lateMany 30 = .ok (.iload_n 1, 1) := by decide +kernel
theorem dX5_lateMany_31 : decode cX5_lateMany 31 = .ok (.iload 4, 2) := by decide +kernel
theorem dX5_lateMany_33 : decode cX5_lateMany 33 = .ok (.iload_n 2, 1) := by decide +kernel
theorem dX5_lateMany_34 : decode cX5_lateMany 34 = .ok (.if_icmp .le 7, 3) := by decide +kernel
theorem dX5_lateMany_37 : decode cX5_lateMany 37 = .ok (.iconst 1, 1) := by decide +kernel
theorem dX5_lateMany_38 : decode cX5_lateMany 38 = .ok (.goto 4, 3) := by decide +kernel
theorem dX5_lateMany_41 : decode cX5_lateMany 41 = .ok (.iconst 0, 1) := by decide +kernel
theorem dX5_lateMany_42 : decode cX5_lateMany 42 = .ok (.iadd, 1) := by decide +kernel
theorem dX5_lateMany_43 : decode cX5_lateMany 43 = .ok (.istore_n 1, 1) := by decide +kernel
theorem dX5_lateMany_44 : decode cX5_lateMany 44 = .ok (.iload 4, 2) := by decide +kernel
theorem dX5_lateMany_46 : decode cX5_lateMany 46 = .ok (.ifCond .lt 14, 3) := by decide +kernel
theorem dX5_lateMany_49 : decode cX5_lateMany 49 = .ok (.iload 4, 2) := by decide +kernel
theorem dX5_lateMany_51 : decode cX5_lateMany 51 = .ok (.iload_n 2, 1) := by decide +kernel
theorem dX5_lateMany_52 : decode cX5_lateMany 52 = .ok (.if_icmp .ge 8, 3) := by decide +kernel
theorem dX5_lateMany_55 : decode cX5_lateMany 55 = .ok (.iload 4, 2) := by decide +kernel
theorem dX5_lateMany_57 : decode cX5_lateMany 57 = .ok (.goto 4, 3) := by decide +kernel
theorem dX5_lateMany_60 : decode cX5_lateMany 60 = .ok (.iload_n 2, 1) := by decide +kernel
theorem dX5_lateMany_61 : decode cX5_lateMany 61 = .ok (.istore_n 2, 1) := by decide +kernel
theorem dX5_lateMany_62 : decode cX5_lateMany 62 = .ok (.iinc 3 (-1), 3) := by decide +kernel
theorem dX5_lateMany_65 : decode cX5_lateMany 65 = .ok (.goto (-52), 3) := by decide +kernel
theorem dX5_lateMany_68 : decode cX5_lateMany 68 = .ok (.iload_n 1, 1) := by decide +kernel
theorem dX5_lateMany_69 : decode cX5_lateMany 69 = .ok (.ireturn, 1) := by decide +kernel
set_option maxRecDepth 20000 in
theorem ggX5_rows_X5_n : GoodIn wsX5_rows wsX5_n := goodIn_r _ [5] (by decide +kernel) (by decide +kernel)
set_option maxRecDepth 20000 in
theorem gX5_rows_X5_n : GoodIn wsX5_rows (va_wsS RX5 22 yX5_n wsX5_n) := goodIn_app (goodIn_of _ (by decide +kernel)) ggX5_rows_X5_n
set_option maxRecDepth 20000 in
theorem ggX5_rows_X5_goesOn : GoodIn wsX5_rows wsX5_goesOn := goodIn_r _ [9, 1, 2, 3, 4, 5, 10, 11, 12, 13, 14, 15, 16, 17, 18, 19, 20] (by decide +kernel) (by decide +kernel)
set_option maxRecDepth 20000 in
theorem gX5_rows_X5_goesOn : GoodIn wsX5_rows (wsV RX5 97 RX5 yX5_goesOn wsX5_goesOn) := goodIn_app (goodIn_of _ (by decide +kernel)) ggX5_rows_X5_goesOn
theorem dX5_rows_0 : decode cX5_rows 0 = .ok (.iconst 0, 1) := by decide +kernel
theorem dX5_rows_1 : decode cX5_rows 1 = .ok (.istore_n 1, 1) := by decide +kernel
theorem dX5_rows_2 : decode cX5_rows 2 = .ok (.iconst 1, 1) := by decide +kernel
theorem dX5_rows_3 : decode cX5_rows 3 = .ok (.istore_n 2, 1) := by decide +kernel
theorem dX5_rows_4 : decode cX5_rows 4 = .ok (.iload_n 2, 1) := by decide +kernel
theorem dX5_rows_5 : decode cX5_rows 5 = .ok (.sipush 600, 3) := by decide +kernel
theorem dX5_rows_8 : decode cX5_rows 8 = .ok (.if_icmp .gt 41, 3) := by decide +kernel
theorem dX5_rows_11 : decode cX5_rows 11 = .ok (.iload_n 1, 1) := by decide +kernel
theorem dX5_rows_12 : decode cX5_rows 12 = .ok (.aload_n 0, 1) := by decide +kernel
theorem dX5_rows_13 : decode cX5_rows 13 = .ok (.getfield 7, 3) := by decide +kernel
theorem dX5_rows_16 : decode cX5_rows 16 = .ok (.iload_n 2, 1) := by decide +kernel
theorem dX5_rows_17 : decode cX5_rows 17 = .ok (.invokestatic 22, 3) := by decide +kernel
theorem dX5_rows_20 : decode cX5_rows 20 = .ok (.iconst 0, 1) := by decide +kernel
theorem dX5_rows_21 : decode cX5_rows 21 = .ok (.iadd, 1) := by decide +kernel
theorem dX5_rows_22 : decode cX5_rows 22 = .ok (.iaload, 1) := by decide +kernel
theorem dX5_rows_23 : decode cX5_rows 23 = .ok (.iconst 4, 1) := by decide +kernel
theorem dX5_rows_24 : decode cX5_rows 24 = .ok (.if_icmp .ne 16, 3) := by decide +kernel
theorem dX5_rows_27 : decode cX5_rows 27 = .ok (.aload_n 0, 1) := by decide +kernel
theorem dX5_rows_28 : decode cX5_rows 28 = .ok (.iload_n 2, 1) := by decide +kernel
theorem dX5_rows_29 : decode cX5_rows 29 = .ok (.iconst 4, 1) := by decide +kernel
theorem dX5_rows_30 : decode cX5_rows 30 = .ok (.invokevirtual 97, 3) := by decide +kernel
theorem dX5_rows_33 : decode cX5_rows 33 = .ok (.ifCond .ne 7, 3) := by decide +kernel
theorem dX5_rows_36 : decode cX5_rows 36 = .ok (.iconst 1, 1) := by decide +kernel
theorem dX5_rows_37 : decode cX5_rows 37 = .ok (.goto 4, 3) := by decide +kernel
theorem dX5_rows_40 : decode cX5_rows 40 = .ok (.iconst 0, 1) := by decide +kernel
theorem dX5_rows_41 : decode cX5_rows 41 = .ok (.iadd, 1) := by decide +kernel
theorem dX5_rows_42 : decode cX5_rows 42 = .ok (.istore_n 1, 1) := by decide +kernel
theorem dX5_rows_43 : decode cX5_rows 43 = .ok (.iinc 2 1, 3) := by decide +kernel
theorem dX5_rows_46 : decode cX5_rows 46 = .ok (.goto (-42), 3) := by decide +kernel
theorem dX5_rows_49 : decode cX5_rows 49 = .ok (.iload_n 1, 1) := by decide +kernel
theorem dX5_rows_50 : decode cX5_rows 50 = .ok (.ireturn, 1) := by decide +kernel
set_option maxRecDepth 20000 in
theorem ggX5_whole_X5_n : GoodIn wsX5_whole wsX5_n := goodIn_r _ [5] (by decide +kernel) (by decide +kernel)
set_option maxRecDepth 20000 in
theorem gX5_whole_X5_n : GoodIn wsX5_whole (va_wsS RX5 22 yX5_n wsX5_n) := goodIn_app (goodIn_of _ (by decide +kernel)) ggX5_whole_X5_n
theorem dX5_whole_0 : decode cX5_whole 0 = .ok (.iconst 1, 1) := by decide +kernel
theorem dX5_whole_1 : decode cX5_whole 1 = .ok (.istore_n 1, 1) := by decide +kernel
theorem dX5_whole_2 : decode cX5_whole 2 = .ok (.iload_n 1, 1) := by decide +kernel
theorem dX5_whole_3 : decode cX5_whole 3 = .ok (.sipush 600, 3) := by decide +kernel
theorem dX5_whole_6 : decode cX5_whole 6 = .ok (.if_icmp .gt 24, 3) := by decide +kernel
theorem dX5_whole_9 : decode cX5_whole 9 = .ok (.aload_n 0, 1) := by decide +kernel
theorem dX5_whole_10 : decode cX5_whole 10 = .ok (.getfield 7, 3) := by decide +kernel
theorem dX5_whole_13 : decode cX5_whole 13 = .ok (.iload_n 1, 1) := by decide +kernel
theorem dX5_whole_14 : decode cX5_whole 14 = .ok (.invokestatic 22, 3) := by decide +kernel
theorem dX5_whole_17 : decode cX5_whole 17 = .ok (.iconst 0, 1) := by decide +kernel
theorem dX5_whole_18 : decode cX5_whole 18 = .ok (.iadd, 1) := by decide +kernel
theorem dX5_whole_19 : decode cX5_whole 19 = .ok (.iaload, 1) := by decide +kernel
theorem dX5_whole_20 : decode cX5_whole 20 = .ok (.iconst 2, 1) := by decide +kernel
theorem dX5_whole_21 : decode cX5_whole 21 = .ok (.if_icmp .ne 9, 3) := by decide +kernel
theorem dX5_whole_24 : decode cX5_whole 24 = .ok (.iinc 1 1, 3) := by decide +kernel
theorem dX5_whole_27 : decode cX5_whole 27 = .ok (.goto (-25), 3) := by decide +kernel
theorem dX5_whole_30 : decode cX5_whole 30 = .ok (.iload_n 1, 1) := by decide +kernel
theorem dX5_whole_31 : decode cX5_whole 31 = .ok (.iconst 1, 1) := by decide +kernel
theorem dX5_whole_32 : decode cX5_whole 32 = .ok (.isub, 1) := by decide +kernel
theorem dX5_whole_33 : decode cX5_whole 33 = .ok (.ireturn, 1) := by decide +kernel
set_option maxRecDepth 20000 in
theorem ggX5_count_X5_many : GoodIn wsX5_count wsX5_many := goodIn_r _ [8, 1, 9, 10, 7, 11, 35, 36, 37, 38, 39, 40, 41, 42, 43, 44, 45] (by decide +kernel) (by decide +kernel)
set_option maxRecDepth 20000 in
theorem gX5_count_X5_many : GoodIn wsX5_count (wsV RX5 57 RX5 yX5_many wsX5_many) := goodIn_app (goodIn_of _ (by decide +kernel)) ggX5_count_X5_many
set_option maxRecDepth 20000 in
theorem ggX5_count_X5_lowest : GoodIn wsX5_count wsX5_lowest := goodIn_r _ [15, 1, 9, 10, 7, 11, 35, 36, 37, 38, 39, 40, 41, 42, 43, 44, 45] (by decide +kernel) (by decide +kernel)
set_option maxRecDepth 20000 in
theorem gX5_count_X5_lowest : GoodIn wsX5_count (wsV RX5 43 RX5 yX5_lowest wsX5_lowest) := goodIn_app (goodIn_of _ (by decide +kernel)) ggX5_count_X5_lowest
set_option maxRecDepth 20000 in
theorem ggX5_count_X5_lateMany : GoodIn wsX5_count wsX5_lateMany := goodIn_r _ [19, 1, 9, 10, 7, 11, 35, 36, 37, 38, 39, 40, 41, 42, 43, 44, 45] (by decide +kernel) (by decide +kernel)
set_option maxRecDepth 20000 in
theorem gX5_count_X5_lateMany : GoodIn wsX5_count (wsV RX5 106 RX5 yX5_lateMany wsX5_lateMany) := goodIn_app (goodIn_of _ (by decide +kernel)) ggX5_count_X5_lateMany
set_option maxRecDepth 20000 in
theorem ggX5_count_X5_whole : GoodIn wsX5_count wsX5_whole := goodIn_r _ [23, 1, 9, 10, 7, 11, 35, 36, 37, 38, 39, 40, 41, 42, 43, 44, 45] (by decide +kernel) (by decide +kernel)
set_option maxRecDepth 20000 in
theorem gX5_count_X5_whole : GoodIn wsX5_count (wsV RX5 109 RX5 yX5_whole wsX5_whole) := goodIn_app (goodIn_of _ (by decide +kernel)) ggX5_count_X5_whole
set_option maxRecDepth 20000 in
theorem ggX5_count_X5_rows : GoodIn wsX5_count wsX5_rows := goodIn_r _ [27, 1, 9, 10, 7, 11, 28, 29, 30, 31, 35, 36, 37, 38, 39, 40, 41, 42, 43, 44, 45] (by decide +kernel) (by decide +kernel)
set_option maxRecDepth 20000 in
theorem gX5_count_X5_rows : GoodIn wsX5_count (wsV RX5 112 RX5 yX5_rows wsX5_rows) := goodIn_app (goodIn_of _ (by decide +kernel)) ggX5_count_X5_rows
set_option maxRecDepth 20000 in
theorem ggX5_count_X5_in : GoodIn wsX5_count wsX5_in := goodIn_r _ [34] (by decide +kernel) (by decide +kernel)
set_option maxRecDepth 20000 in
theorem gX5_count_X5_in : GoodIn wsX5_count (va_wsS RX5 30 yX5_in wsX5_in) := goodIn_app (goodIn_of _ (by decide +kernel)) ggX5_count_X5_in
theorem dX5_count_0 : decode cX5_count 0 = .ok (.iload_n 1, 1) := by decide +kernel
theorem dX5_count_1 : decode cX5_count 1 = .ok (.tableswitch 133 0 11 #[63, 70, 77, 84, 90, 96, 102, 108, 113, 118, 123, 128], 63) := by decide +kernel
theorem dX5_count_64 : decode cX5_count 64 = .ok (.aload_n 0, 1) := by decide +kernel
theorem dX5_count_65 : decode cX5_count 65 = .ok (.getfield 7, 3) := by decide +kernel
theorem dX5_count_68 : decode cX5_count 68 = .ok (.iconst 3, 1) := by decide +kernel
theorem dX5_count_69 : decode cX5_count 69 = .ok (.iaload, 1) := by decide +kernel
theorem dX5_count_70 : decode cX5_count 70 = .ok (.ireturn, 1) := by decide +kernel
theorem dX5_count_71 : decode cX5_count 71 = .ok (.aload_n 0, 1) := by decide +kernel
theorem dX5_count_72 : decode cX5_count 72 = .ok (.getfield 7, 3) := by decide +kernel
theorem dX5_count_75 : decode cX5_count 75 = .ok (.iconst 4, 1) := by decide +kernel
theorem dX5_count_76 : decode cX5_count 76 = .ok (.iaload, 1) := by decide +kernel
theorem dX5_count_77 : decode cX5_count 77 = .ok (.ireturn, 1) := by decide +kernel
theorem dX5_count_78 : decode cX5_count 78 = .ok (.aload_n 0, 1) := by decide +kernel
theorem dX5_count_79 : decode cX5_count 79 = .ok (.getfield 7, 3) := by decide +kernel
theorem dX5_count_82 : decode cX5_count 82 = .ok (.iconst 5, 1) := by decide +kernel
theorem dX5_count_83 : decode cX5_count 83 = .ok (.iaload, 1) := by decide +kernel
theorem dX5_count_84 : decode cX5_count 84 = .ok (.ireturn, 1) := by decide +kernel
theorem dX5_count_85 : decode cX5_count 85 = .ok (.aload_n 0, 1) := by decide +kernel
theorem dX5_count_86 : decode cX5_count 86 = .ok (.iconst 1, 1) := by decide +kernel
theorem dX5_count_87 : decode cX5_count 87 = .ok (.invokevirtual 57, 3) := by decide +kernel
theorem dX5_count_90 : decode cX5_count 90 = .ok (.ireturn, 1) := by decide +kernel
theorem dX5_count_91 : decode cX5_count 91 = .ok (.aload_n 0, 1) := by decide +kernel
theorem dX5_count_92 : decode cX5_count 92 = .ok (.iconst 3, 1) := by decide +kernel
theorem dX5_count_93 : decode cX5_count 93 = .ok (.invokevirtual 57, 3) := by decide +kernel
theorem dX5_count_96 : decode cX5_count 96 = .ok (.ireturn, 1) := by decide +kernel
theorem dX5_count_97 : decode cX5_count 97 = .ok (.aload_n 0, 1) := by decide +kernel
theorem dX5_count_98 : decode cX5_count 98 = .ok (.iconst 4, 1) := by decide +kernel
theorem dX5_count_99 : decode cX5_count 99 = .ok (.invokevirtual 57, 3) := by decide +kernel
theorem dX5_count_102 : decode cX5_count 102 = .ok (.ireturn, 1) := by decide +kernel
theorem dX5_count_103 : decode cX5_count 103 = .ok (.aload_n 0, 1) := by decide +kernel
theorem dX5_count_104 : decode cX5_count 104 = .ok (.iconst 0, 1) := by decide +kernel
theorem dX5_count_105 : decode cX5_count 105 = .ok (.invokevirtual 43, 3) := by decide +kernel
theorem dX5_count_108 : decode cX5_count 108 = .ok (.ireturn, 1) := by decide +kernel
theorem dX5_count_109 : decode cX5_count 109 = .ok (.aload_n 0, 1) := by decide +kernel
theorem dX5_count_110 : decode cX5_count 110 = .ok (.invokevirtual 106, 3) := by decide +kernel
theorem dX5_count_113 : decode cX5_count 113 = .ok (.ireturn, 1) := by decide +kernel
theorem dX5_count_114 : decode cX5_count 114 = .ok (.aload_n 0, 1) := by decide +kernel
theorem dX5_count_115 : decode cX5_count 115 = .ok (.invokevirtual 109, 3) := by decide +kernel
theorem dX5_count_118 : decode cX5_count 118 = .ok (.ireturn, 1) := by decide +kernel
theorem dX5_count_119 : decode cX5_count 119 = .ok (.aload_n 0, 1) := by decide +kernel
theorem dX5_count_120 : decode cX5_count 120 = .ok (.invokevirtual 112, 3) := by decide +kernel
theorem dX5_count_123 : decode cX5_count 123 = .ok (.ireturn, 1) := by decide +kernel
theorem dX5_count_124 : decode cX5_count 124 = .ok (.aload_n 0, 1) := by decide +kernel
theorem dX5_count_125 : decode cX5_count 125 = .ok (.getfield 26, 3) := by decide +kernel
theorem dX5_count_128 : decode cX5_count 128 = .ok (.ireturn, 1) := by decide +kernel
theorem dX5_count_129 : decode cX5_count 129 = .ok (.aload_n 0, 1) := by decide +kernel
theorem dX5_count_130 : decode cX5_count 130 = .ok (.getfield 115, 3) := by decide +kernel
theorem dX5_count_133 : decode cX5_count 133 = .ok (.ireturn, 1) := by decide +kernel
theorem dX5_count_134 : decode cX5_count 134 = .ok (.iload_n 1, 1) := by decide +kernel
theorem dX5_count_135 : decode cX5_count 135 = .ok (.bipush 20, 2) := by decide +kernel
theorem dX5_count_137 : decode cX5_count 137 = .ok (.bipush 22, 2) := by decide +kernel
theorem dX5_count_139 : decode cX5_count 139 = .ok (.invokestatic 30, 3) := by decide +kernel
theorem dX5_count_142 : decode cX5_count 142 = .ok (.ifCond .eq 15, 3) := by decide +kernel
theorem dX5_count_145 : decode cX5_count 145 = .ok (.aload_n 0, 1) := by decide +kernel
theorem dX5_count_146 : decode cX5_count 146 = .ok (.getfield 7, 3) := by decide +kernel
theorem dX5_count_149 : decode cX5_count 149 = .ok (.iload_n 1, 1) := by decide +kernel
theorem dX5_count_150 : decode cX5_count 150 = .ok (.bipush 20, 2) := by decide +kernel
theorem dX5_count_152 : decode cX5_count 152 = .ok (.isub, 1) := by decide +kernel
theorem dX5_count_153 : decode cX5_count 153 = .ok (.iaload, 1) := by decide +kernel
theorem dX5_count_154 : decode cX5_count 154 = .ok (.goto 4, 3) := by decide +kernel
theorem dX5_count_157 : decode cX5_count 157 = .ok (.iconst (-1), 1) := by decide +kernel
theorem dX5_count_158 : decode cX5_count 158 = .ok (.ireturn, 1) := by decide +kernel
set_option maxRecDepth 20000 in
theorem ggX5_next_X5_isClerk : GoodIn wsX5_next wsX5_isClerk := goodIn_r _ [6, 1, 7, 8, 5, 9, 28, 29, 30, 31, 32, 33, 34, 35, 36, 37, 38] (by decide +kernel) (by decide +kernel)
set_option maxRecDepth 20000 in
theorem gX5_next_X5_isClerk : GoodIn wsX5_next (wsV RX5 63 RX5 yX5_isClerk wsX5_isClerk) := goodIn_app (goodIn_of _ (by decide +kernel)) ggX5_next_X5_isClerk
set_option maxRecDepth 20000 in
theorem ggX5_next_X5_holds : GoodIn wsX5_next wsX5_holds := goodIn_r _ [13, 1, 14, 15, 5, 16, 28, 29, 30, 31, 32, 33, 34, 35, 36, 37, 38] (by decide +kernel) (by decide +kernel)
set_option maxRecDepth 20000 in
theorem gX5_next_X5_holds : GoodIn wsX5_next (wsV RX5 50 RX5 yX5_holds wsX5_holds) := goodIn_app (goodIn_of _ (by decide +kernel)) ggX5_next_X5_holds
set_option maxRecDepth 20000 in
theorem ggX5_next_X5_c : GoodIn wsX5_next wsX5_c := goodIn_r _ [16] (by decide +kernel) (by decide +kernel)
set_option maxRecDepth 20000 in
theorem gX5_next_X5_c : GoodIn wsX5_next (va_wsS RX5 34 yX5_c wsX5_c) := goodIn_app (goodIn_of _ (by decide +kernel)) ggX5_next_X5_c
set_option maxRecDepth 20000 in
theorem ggX5_next_X5_blockFrom : GoodIn wsX5_next wsX5_blockFrom := goodIn_r _ [20, 1, 21, 22, 23, 5, 24, 25, 26, 27, 28, 29, 30, 31, 32, 33, 34, 35, 36, 37, 38] (by decide +kernel) (by decide +kernel)
set_option maxRecDepth 20000 in
theorem gX5_next_X5_blockFrom : GoodIn wsX5_next (wsV RX5 46 RX5 yX5_blockFrom wsX5_blockFrom) := goodIn_app (goodIn_of _ (by decide +kernel)) ggX5_next_X5_blockFrom
theorem dX5_next_0 : decode cX5_next 0 = .ok (.aload_n 0, 1) := by decide +kernel
theorem dX5_next_1 : decode cX5_next 1 = .ok (.iload_n 1, 1) := by decide +kernel
theorem dX5_next_2 : decode cX5_next 2 = .ok (.invokevirtual 63, 3) := by decide +kernel
theorem dX5_next_5 : decode cX5_next 5 = .ok (.ifCond .ne 5, 3) := by decide +kernel
theorem dX5_next_8 : decode cX5_next 8 = .ok (.iconst (-1), 1) := by decide +kernel
theorem dX5_next_9 : decode cX5_next 9 = .ok (.ireturn, 1) := by decide +kernel
theorem dX5_next_10 : decode cX5_next 10 = .ok (.aload_n 0, 1) := by decide +kernel
theorem dX5_next_11 : decode cX5_next 11 = .ok (.iload_n 1, 1) := by decide +kernel
theorem dX5_next_12 : decode cX5_next 12 = .ok (.invokevirtual 50, 3) := by decide +kernel
theorem dX5_next_15 : decode cX5_next 15 = .ok (.ifCond .le 17, 3) := by decide +kernel
theorem dX5_next_18 : decode cX5_next 18 = .ok (.aload_n 0, 1) := by decide +kernel
theorem dX5_next_19 : decode cX5_next 19 = .ok (.getfield 7, 3) := by decide +kernel
theorem dX5_next_22 : decode cX5_next 22 = .ok (.iload_n 1, 1) := by decide +kernel
theorem dX5_next_23 : decode cX5_next 23 = .ok (.invokestatic 34, 3) := by decide +kernel
theorem dX5_next_26 : decode cX5_next 26 = .ok (.iconst 1, 1) := by decide +kernel
theorem dX5_next_27 : decode cX5_next 27 = .ok (.iadd, 1) := by decide +kernel
theorem dX5_next_28 : decode cX5_next 28 = .ok (.iaload, 1) := by decide +kernel
theorem dX5_next_29 : decode cX5_next 29 = .ok (.goto 7, 3) := by decide +kernel
theorem dX5_next_32 : decode cX5_next 32 = .ok (.aload_n 0, 1) := by decide +kernel
theorem dX5_next_33 : decode cX5_next 33 = .ok (.invokevirtual 46, 3) := by decide +kernel
theorem dX5_next_36 : decode cX5_next 36 = .ok (.istore_n 2, 1) := by decide +kernel
theorem dX5_next_37 : decode cX5_next 37 = .ok (.iload_n 2, 1) := by decide +kernel
theorem dX5_next_38 : decode cX5_next 38 = .ok (.sipush 600, 3) := by decide +kernel
theorem dX5_next_41 : decode cX5_next 41 = .ok (.if_icmp .le 8, 3) := by decide +kernel
theorem dX5_next_44 : decode cX5_next 44 = .ok (.bipush (-3), 2) := by decide +kernel
theorem dX5_next_46 : decode cX5_next 46 = .ok (.goto 4, 3) := by decide +kernel
theorem dX5_next_49 : decode cX5_next 49 = .ok (.iload_n 2, 1) := by decide +kernel
theorem dX5_next_50 : decode cX5_next 50 = .ok (.ireturn, 1) := by decide +kernel
set_option maxRecDepth 20000 in
theorem ggX5_cost_X5_isClerk : GoodIn wsX5_cost wsX5_isClerk := goodIn_r _ [5, 6, 7, 8, 4, 9, 65, 66, 67, 68, 69, 70, 71, 72, 73, 74, 75] (by decide +kernel) (by decide +kernel)
set_option maxRecDepth 20000 in
theorem gX5_cost_X5_isClerk : GoodIn wsX5_cost (wsV RX5 63 RX5 yX5_isClerk wsX5_isClerk) := goodIn_app (goodIn_of _ (by decide +kernel)) ggX5_cost_X5_isClerk
set_option maxRecDepth 20000 in
theorem ggX5_cost_X5_in : GoodIn wsX5_cost wsX5_in := goodIn_r _ [9] (by decide +kernel) (by decide +kernel)
set_option maxRecDepth 20000 in
theorem gX5_cost_X5_in : GoodIn wsX5_cost (va_wsS RX5 30 yX5_in wsX5_in) := goodIn_app (goodIn_of _ (by decide +kernel)) ggX5_cost_X5_in
set_option maxRecDepth 20000 in
theorem ggX5_cost_X5_canAsk : GoodIn wsX5_cost wsX5_canAsk := goodIn_r _ [13, 6, 14, 15, 16, 4, 17, 18, 19, 20, 21, 22, 23, 24, 25, 26, 27, 65, 66, 67, 68, 69, 70, 71, 72, 73, 74, 75] (by decide +kernel) (by decide +kernel)
set_option maxRecDepth 20000 in
theorem gX5_cost_X5_canAsk : GoodIn wsX5_cost (wsV RX5 67 RX5 yX5_canAsk wsX5_canAsk) := goodIn_app (goodIn_of _ (by decide +kernel)) ggX5_cost_X5_canAsk
set_option maxRecDepth 20000 in
theorem ggX5_cost_X5_layAside : GoodIn wsX5_cost wsX5_layAside := goodIn_r _ [31, 32, 6, 65, 66, 67, 68, 69, 70, 71, 72, 73, 74, 75] (by decide +kernel) (by decide +kernel)
set_option maxRecDepth 20000 in
theorem gX5_cost_X5_layAside : GoodIn wsX5_cost (wsV RX5 118 RX5 yX5_layAside wsX5_layAside) := goodIn_app (goodIn_of _ (by decide +kernel)) ggX5_cost_X5_layAside
set_option maxRecDepth 20000 in
theorem ggX5_cost_X5_goAsk : GoodIn wsX5_cost wsX5_goAsk := goodIn_r _ [36, 6, 37, 38, 39, 4, 40, 18, 19, 20, 14, 15, 16, 17, 41, 42, 43, 44, 45, 46, 47, 48, 49, 50, 51, 52, 25, 26, 27, 65, 66, 67, 68, 69, 70, 71, 72, 73, 74, 75] (by decide +kernel) (by decide +kernel)
set_option maxRecDepth 20000 in
theorem gX5_cost_X5_goAsk : GoodIn wsX5_cost (wsV RX5 71 RX5 yX5_goAsk wsX5_goAsk) := goodIn_app (goodIn_of _ (by decide +kernel)) ggX5_cost_X5_goAsk
set_option maxRecDepth 20000 in
theorem ggX5_cost_X5_goForget : GoodIn wsX5_cost wsX5_goForget := goodIn_r _ [56, 6, 18, 19, 4, 20, 14, 15, 16, 17, 57, 58, 59, 60, 25, 26, 27, 65, 66, 67, 68, 69, 70, 71, 72, 73, 74, 75] (by decide +kernel) (by decide +kernel)
set_option maxRecDepth 20000 in
theorem gX5_cost_X5_goForget : GoodIn wsX5_cost (wsV RX5 79 RX5 yX5_goForget wsX5_goForget) := goodIn_app (goodIn_of _ (by decide +kernel)) ggX5_cost_X5_goForget
set_option maxRecDepth 20000 in
theorem ggX5_cost_X5_layBack : GoodIn wsX5_cost wsX5_layBack := goodIn_r _ [64, 6, 32, 65, 66, 67, 68, 69, 70, 71, 72, 73, 74, 75] (by decide +kernel) (by decide +kernel)
set_option maxRecDepth 20000 in
theorem gX5_cost_X5_layBack : GoodIn wsX5_cost (wsV RX5 121 RX5 yX5_layBack wsX5_layBack) := goodIn_app (goodIn_of _ (by decide +kernel)) ggX5_cost_X5_layBack
theorem dX5_cost_0 : decode cX5_cost 0 = .ok (.aload_n 0, 1) := by decide +kernel
theorem dX5_cost_1 : decode cX5_cost 1 = .ok (.iload_n 1, 1) := by decide +kernel
theorem dX5_cost_2 : decode cX5_cost 2 = .ok (.invokevirtual 63, 3) := by decide +kernel
theorem dX5_cost_5 : decode cX5_cost 5 = .ok (.ifCond .eq 13, 3) := by decide +kernel
theorem dX5_cost_8 : decode cX5_cost 8 = .ok (.iload_n 2, 1) := by decide +kernel
theorem dX5_cost_9 : decode cX5_cost 9 = .ok (.iconst 0, 1) := by decide +kernel
theorem dX5_cost_10 : decode cX5_cost 10 = .ok (.bipush 50, 2) := by decide +kernel
theorem dX5_cost_12 : decode cX5_cost 12 = .ok (.invokestatic 30, 3) := by decide +kernel
theorem dX5_cost_15 : decode cX5_cost 15 = .ok (.ifCond .ne 5, 3) := by decide +kernel
theorem dX5_cost_18 : decode cX5_cost 18 = .ok (.iconst (-1), 1) := by decide +kernel
theorem dX5_cost_19 : decode cX5_cost 19 = .ok (.ireturn, 1) := by decide +kernel
theorem dX5_cost_20 : decode cX5_cost 20 = .ok (.aload_n 0, 1) := by decide +kernel
theorem dX5_cost_21 : decode cX5_cost 21 = .ok (.iload_n 1, 1) := by decide +kernel
theorem dX5_cost_22 : decode cX5_cost 22 = .ok (.iload_n 2, 1) := by decide +kernel
theorem dX5_cost_23 : decode cX5_cost 23 = .ok (.invokevirtual 67, 3) := by decide +kernel
theorem dX5_cost_26 : decode cX5_cost 26 = .ok (.ifCond .ne 6, 3) := by decide +kernel
theorem dX5_cost_29 : decode cX5_cost 29 = .ok (.bipush (-3), 2) := by decide +kernel
theorem dX5_cost_31 : decode cX5_cost 31 = .ok (.ireturn, 1) := by decide +kernel
theorem dX5_cost_32 : decode cX5_cost 32 = .ok (.aload_n 0, 1) := by decide +kernel
theorem dX5_cost_33 : decode cX5_cost 33 = .ok (.invokevirtual 118, 3) := by decide +kernel
theorem dX5_cost_36 : decode cX5_cost 36 = .ok (.aload_n 0, 1) := by decide +kernel
theorem dX5_cost_37 : decode cX5_cost 37 = .ok (.iload_n 1, 1) := by decide +kernel
theorem dX5_cost_38 : decode cX5_cost 38 = .ok (.iload_n 2, 1) := by decide +kernel
theorem dX5_cost_39 : decode cX5_cost 39 = .ok (.invokevirtual 71, 3) := by decide +kernel
theorem dX5_cost_42 : decode cX5_cost 42 = .ok (.pop, 1) := by decide +kernel
theorem dX5_cost_43 : decode cX5_cost 43 = .ok (.aload_n 0, 1) := by decide +kernel
theorem dX5_cost_44 : decode cX5_cost 44 = .ok (.iload_n 1, 1) := by decide +kernel
theorem dX5_cost_45 : decode cX5_cost 45 = .ok (.invokevirtual 79, 3) := by decide +kernel
theorem dX5_cost_48 : decode cX5_cost 48 = .ok (.istore_n 3, 1) := by decide +kernel
theorem dX5_cost_49 : decode cX5_cost 49 = .ok (.aload_n 0, 1) := by decide +kernel
theorem dX5_cost_50 : decode cX5_cost 50 = .ok (.invokevirtual 121, 3) := by decide +kernel
theorem dX5_cost_53 : decode cX5_cost 53 = .ok (.iload_n 3, 1) := by decide +kernel
theorem dX5_cost_54 : decode cX5_cost 54 = .ok (.ireturn, 1) := by decide +kernel
set_option maxRecDepth 20000 in
theorem ggX5_forgets_X5_c : GoodIn wsX5_forgets wsX5_c := goodIn_r _ [5] (by decide +kernel) (by decide +kernel)
set_option maxRecDepth 20000 in
theorem gX5_forgets_X5_c : GoodIn wsX5_forgets (va_wsS RX5 34 yX5_c wsX5_c) := goodIn_app (goodIn_of _ (by decide +kernel)) ggX5_forgets_X5_c
set_option maxRecDepth 20000 in
theorem ggX5_forgets_X5_holds : GoodIn wsX5_forgets wsX5_holds := goodIn_r _ [9, 1, 2, 3, 4, 5, 10, 11, 12, 13, 14, 15, 16, 17, 18, 19, 20] (by decide +kernel) (by decide +kernel)
set_option maxRecDepth 20000 in
theorem gX5_forgets_X5_holds : GoodIn wsX5_forgets (wsV RX5 50 RX5 yX5_holds wsX5_holds) := goodIn_app (goodIn_of _ (by decide +kernel)) ggX5_forgets_X5_holds
theorem dX5_forgets_0 : decode cX5_forgets 0 = .ok (.iload_n 1, 1) := by decide +kernel
theorem dX5_forgets_1 : decode cX5_forgets 1 = .ok (.invokestatic 34, 3) := by decide +kernel
theorem dX5_forgets_4 : decode cX5_forgets 4 = .ok (.istore_n 2, 1) := by decide +kernel
theorem dX5_forgets_5 : decode cX5_forgets 5 = .ok (.aload_n 0, 1) := by decide +kernel
theorem dX5_forgets_6 : decode cX5_forgets 6 = .ok (.getfield 7, 3) := by decide +kernel
theorem dX5_forgets_9 : decode cX5_forgets 9 = .ok (.iload_n 2, 1) := by decide +kernel
theorem dX5_forgets_10 : decode cX5_forgets 10 = .ok (.iconst 3, 1) := by decide +kernel
theorem dX5_forgets_11 : decode cX5_forgets 11 = .ok (.iadd, 1) := by decide +kernel
theorem dX5_forgets_12 : decode cX5_forgets 12 = .ok (.iaload, 1) := by decide +kernel
theorem dX5_forgets_13 : decode cX5_forgets 13 = .ok (.aload_n 0, 1) := by decide +kernel
theorem dX5_forgets_14 : decode cX5_forgets 14 = .ok (.getfield 7, 3) := by decide +kernel
theorem dX5_forgets_17 : decode cX5_forgets 17 = .ok (.iload_n 2, 1) := by decide +kernel
theorem dX5_forgets_18 : decode cX5_forgets 18 = .ok (.iconst 2, 1) := by decide +kernel
theorem dX5_forgets_19 : decode cX5_forgets 19 = .ok (.iadd, 1) := by decide +kernel
theorem dX5_forgets_20 : decode cX5_forgets 20 = .ok (.iaload, 1) := by decide +kernel
theorem dX5_forgets_21 : decode cX5_forgets 21 = .ok (.if_icmp .ge 14, 3) := by decide +kernel
theorem dX5_forgets_24 : decode cX5_forgets 24 = .ok (.aload_n 0, 1) := by decide +kernel
theorem dX5_forgets_25 : decode cX5_forgets 25 = .ok (.getfield 7, 3) := by decide +kernel
theorem dX5_forgets_28 : decode cX5_forgets 28 = .ok (.iload_n 2, 1) := by decide +kernel
theorem dX5_forgets_29 : decode cX5_forgets 29 = .ok (.iconst 3, 1) := by decide +kernel
theorem dX5_forgets_30 : decode cX5_forgets 30 = .ok (.iadd, 1) := by decide +kernel
theorem dX5_forgets_31 : decode cX5_forgets 31 = .ok (.iaload, 1) := by decide +kernel
theorem dX5_forgets_32 : decode cX5_forgets 32 = .ok (.goto 11, 3) := by decide +kernel
theorem dX5_forgets_35 : decode cX5_forgets 35 = .ok (.aload_n 0, 1) := by decide +kernel
theorem dX5_forgets_36 : decode cX5_forgets 36 = .ok (.getfield 7, 3) := by decide +kernel
theorem dX5_forgets_39 : decode cX5_forgets 39 = .ok (.iload_n 2, 1) := by decide +kernel
theorem dX5_forgets_40 : decode cX5_forgets 40 = .ok (.iconst 2, 1) := by decide +kernel
theorem dX5_forgets_41 : decode cX5_forgets 41 = .ok (.iadd, 1) := by decide +kernel
theorem dX5_forgets_42 : decode cX5_forgets 42 = .ok (.iaload, 1) := by decide +kernel
theorem dX5_forgets_43 : decode cX5_forgets 43 = .ok (.istore_n 3, 1) := by decide +kernel
theorem dX5_forgets_44 : decode cX5_forgets 44 = .ok (.aload_n 0, 1) := by decide +kernel
theorem dX5_forgets_45 : decode cX5_forgets 45 = .ok (.iload_n 1, 1) := by decide +kernel
theorem dX5_forgets_46 : decode cX5_forgets 46 = .ok (.invokevirtual 50, 3) := by decide +kernel
theorem dX5_forgets_49 : decode cX5_forgets 49 = .ok (.ifCond .eq 15, 3) := by decide +kernel
theorem dX5_forgets_52 : decode cX5_forgets 52 = .ok (.iload_n 3, 1) := by decide +kernel
theorem dX5_forgets_53 : decode cX5_forgets 53 = .ok (.aload_n 0, 1) := by decide +kernel
theorem dX5_forgets_54 : decode cX5_forgets 54 = .ok (.getfield 7, 3) := by decide +kernel
theorem dX5_forgets_57 : decode cX5_forgets 57 = .ok (.iload_n 2, 1) := by decide +kernel
theorem dX5_forgets_58 : decode cX5_forgets 58 = .ok (.iconst 1, 1) := by decide +kernel
theorem dX5_forgets_59 : decode cX5_forgets 59 = .ok (.iadd, 1) := by decide +kernel
theorem dX5_forgets_60 : decode cX5_forgets 60 = .ok (.iaload, 1) := by decide +kernel
theorem dX5_forgets_61 : decode cX5_forgets 61 = .ok (.if_icmp .ge 7, 3) := by decide +kernel
theorem dX5_forgets_64 : decode cX5_forgets 64 = .ok (.iconst 0, 1) := by decide +kernel
theorem dX5_forgets_65 : decode cX5_forgets 65 = .ok (.goto 15, 3) := by decide +kernel
theorem dX5_forgets_68 : decode cX5_forgets 68 = .ok (.iload_n 3, 1) := by decide +kernel
theorem dX5_forgets_69 : decode cX5_forgets 69 = .ok (.aload_n 0, 1) := by decide +kernel
theorem dX5_forgets_70 : decode cX5_forgets 70 = .ok (.getfield 7, 3) := by decide +kernel
theorem dX5_forgets_73 : decode cX5_forgets 73 = .ok (.iload_n 2, 1) := by decide +kernel
theorem dX5_forgets_74 : decode cX5_forgets 74 = .ok (.iconst 1, 1) := by decide +kernel
theorem dX5_forgets_75 : decode cX5_forgets 75 = .ok (.iadd, 1) := by decide +kernel
theorem dX5_forgets_76 : decode cX5_forgets 76 = .ok (.iaload, 1) := by decide +kernel
theorem dX5_forgets_77 : decode cX5_forgets 77 = .ok (.isub, 1) := by decide +kernel
theorem dX5_forgets_78 : decode cX5_forgets 78 = .ok (.iconst 1, 1) := by decide +kernel
theorem dX5_forgets_79 : decode cX5_forgets 79 = .ok (.iadd, 1) := by decide +kernel
theorem dX5_forgets_80 : decode cX5_forgets 80 = .ok (.ireturn, 1) := by decide +kernel
set_option maxRecDepth 20000 in
theorem ggX5_worst_X5_forgets : GoodIn wsX5_worst wsX5_forgets := goodIn_r _ [6, 1, 7, 8, 5, 9, 10, 11, 12, 13, 14, 15, 16, 17, 18, 19, 20, 21, 22, 23, 24] (by decide +kernel) (by decide +kernel)
set_option maxRecDepth 20000 in
theorem gX5_worst_X5_forgets : GoodIn wsX5_worst (wsV RX5 124 RX5 yX5_forgets wsX5_forgets) := goodIn_app (goodIn_of _ (by decide +kernel)) ggX5_worst_X5_forgets
theorem dX5_worst_0 : decode cX5_worst 0 = .ok (.bipush (-4), 2) := by decide +kernel
theorem dX5_worst_2 : decode cX5_worst 2 = .ok (.istore_n 1, 1) := by decide +kernel
theorem dX5_worst_3 : decode cX5_worst 3 = .ok (.iconst 0, 1) := by decide +kernel
theorem dX5_worst_4 : decode cX5_worst 4 = .ok (.istore_n 2, 1) := by decide +kernel
theorem dX5_worst_5 : decode cX5_worst 5 = .ok (.iconst 0, 1) := by decide +kernel
theorem dX5_worst_6 : decode cX5_worst 6 = .ok (.istore_n 3, 1) := by decide +kernel
theorem dX5_worst_7 : decode cX5_worst 7 = .ok (.iload_n 3, 1) := by decide +kernel
theorem dX5_worst_8 : decode cX5_worst 8 = .ok (.aload_n 0, 1) := by decide +kernel
theorem dX5_worst_9 : decode cX5_worst 9 = .ok (.getfield 7, 3) := by decide +kernel
theorem dX5_worst_12 : decode cX5_worst 12 = .ok (.iconst 3, 1) := by decide +kernel
theorem dX5_worst_13 : decode cX5_worst 13 = .ok (.iaload, 1) := by decide +kernel
theorem dX5_worst_14 : decode cX5_worst 14 = .ok (.if_icmp .ge 43, 3) := by decide +kernel
theorem dX5_worst_17 : decode cX5_worst 17 = .ok (.aload_n 0, 1) := by decide +kernel
theorem dX5_worst_18 : decode cX5_worst 18 = .ok (.iload_n 3, 1) := by decide +kernel
theorem dX5_worst_19 : decode cX5_worst 19 = .ok (.invokevirtual 124, 3) := by decide +kernel
theorem dX5_worst_22 : decode cX5_worst 22 = .ok (.iload_n 2, 1) := by decide +kernel
theorem dX5_worst_23 : decode cX5_worst 23 = .ok (.if_icmp .le 7, 3) := by decide +kernel
theorem dX5_worst_26 : decode cX5_worst 26 = .ok (.iload_n 3, 1) := by decide +kernel
theorem dX5_worst_27 : decode cX5_worst 27 = .ok (.goto 4, 3) := by decide +kernel
theorem dX5_worst_30 : decode cX5_worst 30 = .ok (.iload_n 1, 1) := by decide +kernel
theorem dX5_worst_31 : decode cX5_worst 31 = .ok (.istore_n 1, 1) := by decide +kernel
theorem dX5_worst_32 : decode cX5_worst 32 = .ok (.aload_n 0, 1) := by decide +kernel
theorem dX5_worst_33 : decode cX5_worst 33 = .ok (.iload_n 3, 1) := by decide +kernel
theorem dX5_worst_34 : decode cX5_worst 34 = .ok (.invokevirtual 124, 3) := by decide +kernel
theorem dX5_worst_37 : decode cX5_worst 37 = .ok (.iload_n 2, 1) := by decide +kernel
theorem dX5_worst_38 : decode cX5_worst 38 = .ok (.if_icmp .le 11, 3) := by decide +kernel
theorem dX5_worst_41 : decode cX5_worst 41 = .ok (.aload_n 0, 1) := by decide +kernel
theorem dX5_worst_42 : decode cX5_worst 42 = .ok (.iload_n 3, 1) := by decide +kernel
theorem dX5_worst_43 : decode cX5_worst 43 = .ok (.invokevirtual 124, 3) := by decide +kernel
theorem dX5_worst_46 : decode cX5_worst 46 = .ok (.goto 4, 3) := by decide +kernel
theorem dX5_worst_49 : decode cX5_worst 49 = .ok (.iload_n 2, 1) := by decide +kernel
theorem dX5_worst_50 : decode cX5_worst 50 = .ok (.istore_n 2, 1) := by decide +kernel
theorem dX5_worst_51 : decode cX5_worst 51 = .ok (.iinc 3 1, 3) := by decide +kernel
theorem dX5_worst_54 : decode cX5_worst 54 = .ok (.goto (-47), 3) := by decide +kernel
theorem dX5_worst_57 : decode cX5_worst 57 = .ok (.iload_n 1, 1) := by decide +kernel
theorem dX5_worst_58 : decode cX5_worst 58 = .ok (.ireturn, 1) := by decide +kernel
theorem dX5_undo_0 : decode cX5_undo 0 = .ok (.aload_n 0, 1) := by decide +kernel
theorem dX5_undo_1 : decode cX5_undo 1 = .ok (.getfield 26, 3) := by decide +kernel
theorem dX5_undo_4 : decode cX5_undo 4 = .ok (.ifCond .ne 6, 3) := by decide +kernel
theorem dX5_undo_7 : decode cX5_undo 7 = .ok (.bipush (-2), 2) := by decide +kernel
theorem dX5_undo_9 : decode cX5_undo 9 = .ok (.ireturn, 1) := by decide +kernel
theorem dX5_undo_10 : decode cX5_undo 10 = .ok (.aload_n 0, 1) := by decide +kernel
theorem dX5_undo_11 : decode cX5_undo 11 = .ok (.dup, 1) := by decide +kernel
theorem dX5_undo_12 : decode cX5_undo 12 = .ok (.getfield 26, 3) := by decide +kernel
theorem dX5_undo_15 : decode cX5_undo 15 = .ok (.iconst 1, 1) := by decide +kernel
theorem dX5_undo_16 : decode cX5_undo 16 = .ok (.isub, 1) := by decide +kernel
theorem dX5_undo_17 : decode cX5_undo 17 = .ok (.putfield 26, 3) := by decide +kernel
theorem dX5_undo_20 : decode cX5_undo 20 = .ok (.iconst 0, 1) := by decide +kernel
theorem dX5_undo_21 : decode cX5_undo 21 = .ok (.istore_n 1, 1) := by decide +kernel
theorem dX5_undo_22 : decode cX5_undo 22 = .ok (.iload_n 1, 1) := by decide +kernel
theorem dX5_undo_23 : decode cX5_undo 23 = .ok (.sipush 3053, 3) := by decide +kernel
theorem dX5_undo_26 : decode cX5_undo 26 = .ok (.if_icmp .ge 30, 3) := by decide +kernel
theorem dX5_undo_29 : decode cX5_undo 29 = .ok (.aload_n 0, 1) := by decide +kernel
theorem dX5_undo_30 : decode cX5_undo 30 = .ok (.getfield 7, 3) := by decide +kernel
theorem dX5_undo_33 : decode cX5_undo 33 = .ok (.iload_n 1, 1) := by decide +kernel
theorem dX5_undo_34 : decode cX5_undo 34 = .ok (.aload_n 0, 1) := by decide +kernel
theorem dX5_undo_35 : decode cX5_undo 35 = .ok (.getfield 13, 3) := by decide +kernel
theorem dX5_undo_38 : decode cX5_undo 38 = .ok (.sipush 3053, 3) := by decide +kernel
theorem dX5_undo_41 : decode cX5_undo 41 = .ok (.aload_n 0, 1) := by decide +kernel
theorem dX5_undo_42 : decode cX5_undo 42 = .ok (.getfield 26, 3) := by decide +kernel
theorem dX5_undo_45 : decode cX5_undo 45 = .ok (.imul, 1) := by decide +kernel
theorem dX5_undo_46 : decode cX5_undo 46 = .ok (.iload_n 1, 1) := by decide +kernel
theorem dX5_undo_47 : decode cX5_undo 47 = .ok (.iadd, 1) := by decide +kernel
theorem dX5_undo_48 : decode cX5_undo 48 = .ok (.iaload, 1) := by decide +kernel
theorem dX5_undo_49 : decode cX5_undo 49 = .ok (.iastore, 1) := by decide +kernel
theorem dX5_undo_50 : decode cX5_undo 50 = .ok (.iinc 1 1, 3) := by decide +kernel
theorem dX5_undo_53 : decode cX5_undo 53 = .ok (.goto (-31), 3) := by decide +kernel
theorem dX5_undo_56 : decode cX5_undo 56 = .ok (.aload_n 0, 1) := by decide +kernel
theorem dX5_undo_57 : decode cX5_undo 57 = .ok (.getfield 26, 3) := by decide +kernel
theorem dX5_undo_60 : decode cX5_undo 60 = .ok (.ireturn, 1) := by decide +kernel
set_option maxRecDepth 20000 in
theorem ggX5_type_X5_in : GoodIn wsX5_type wsX5_in := goodIn_r _ [6] (by decide +kernel) (by decide +kernel)
set_option maxRecDepth 20000 in
theorem gX5_type_X5_in : GoodIn wsX5_type (va_wsS RX5 30 yX5_in wsX5_in) := goodIn_app (goodIn_of _ (by decide +kernel)) ggX5_type_X5_in
theorem dX5_type_0 : decode cX5_type 0 = .ok (.iload_n 1, 1) := by decide +kernel
theorem dX5_type_1 : decode cX5_type 1 = .ok (.bipush 32, 2) := by decide +kernel
theorem dX5_type_3 : decode cX5_type 3 = .ok (.bipush 126, 2) := by decide +kernel
theorem dX5_type_5 : decode cX5_type 5 = .ok (.invokestatic 30, 3) := by decide +kernel
theorem dX5_type_8 : decode cX5_type 8 = .ok (.ifCond .ne 5, 3) := by decide +kernel
theorem dX5_type_11 : decode cX5_type 11 = .ok (.iconst (-1), 1) := by decide +kernel
theorem dX5_type_12 : decode cX5_type 12 = .ok (.ireturn, 1) := by decide +kernel
theorem dX5_type_13 : decode cX5_type 13 = .ok (.aload_n 0, 1) := by decide +kernel
theorem dX5_type_14 : decode cX5_type 14 = .ok (.getfield 115, 3) := by decide +kernel
theorem dX5_type_17 : decode cX5_type 17 = .ok (.bipush 80, 2) := by decide +kernel
theorem dX5_type_19 : decode cX5_type 19 = .ok (.if_icmp .ne 6, 3) := by decide +kernel
theorem dX5_type_22 : decode cX5_type 22 = .ok (.bipush (-3), 2) := by decide +kernel
theorem dX5_type_24 : decode cX5_type 24 = .ok (.ireturn, 1) := by decide +kernel
theorem dX5_type_25 : decode cX5_type 25 = .ok (.aload_n 0, 1) := by decide +kernel
theorem dX5_type_26 : decode cX5_type 26 = .ok (.getfield 19, 3) := by decide +kernel
theorem dX5_type_29 : decode cX5_type 29 = .ok (.aload_n 0, 1) := by decide +kernel
theorem dX5_type_30 : decode cX5_type 30 = .ok (.getfield 115, 3) := by decide +kernel
theorem dX5_type_33 : decode cX5_type 33 = .ok (.iload_n 1, 1) := by decide +kernel
theorem dX5_type_34 : decode cX5_type 34 = .ok (.iastore, 1) := by decide +kernel
theorem dX5_type_35 : decode cX5_type 35 = .ok (.aload_n 0, 1) := by decide +kernel
theorem dX5_type_36 : decode cX5_type 36 = .ok (.dup, 1) := by decide +kernel
theorem dX5_type_37 : decode cX5_type 37 = .ok (.getfield 115, 3) := by decide +kernel
theorem dX5_type_40 : decode cX5_type 40 = .ok (.iconst 1, 1) := by decide +kernel
theorem dX5_type_41 : decode cX5_type 41 = .ok (.iadd, 1) := by decide +kernel
theorem dX5_type_42 : decode cX5_type 42 = .ok (.putfield 115, 3) := by decide +kernel
theorem dX5_type_45 : decode cX5_type 45 = .ok (.aload_n 0, 1) := by decide +kernel
theorem dX5_type_46 : decode cX5_type 46 = .ok (.getfield 115, 3) := by decide +kernel
theorem dX5_type_49 : decode cX5_type 49 = .ok (.ireturn, 1) := by decide +kernel
theorem dX5_clearText_0 : decode cX5_clearText 0 = .ok (.aload_n 0, 1) := by decide +kernel
theorem dX5_clearText_1 : decode cX5_clearText 1 = .ok (.getfield 115, 3) := by decide +kernel
theorem dX5_clearText_4 : decode cX5_clearText 4 = .ok (.istore_n 1, 1) := by decide +kernel
theorem dX5_clearText_5 : decode cX5_clearText 5 = .ok (.aload_n 0, 1) := by decide +kernel
theorem dX5_clearText_6 : decode cX5_clearText 6 = .ok (.iconst 0, 1) := by decide +kernel
theorem dX5_clearText_7 : decode cX5_clearText 7 = .ok (.putfield 115, 3) := by decide +kernel
theorem dX5_clearText_10 : decode cX5_clearText 10 = .ok (.iload_n 1, 1) := by decide +kernel
theorem dX5_clearText_11 : decode cX5_clearText 11 = .ok (.ireturn, 1) := by decide +kernel
theorem dX5_has_0 : decode cX5_has 0 = .ok (.iload_n 2, 1) := by decide +kernel
theorem dX5_has_1 : decode cX5_has 1 = .ok (.ifCond .eq 31, 3) := by decide +kernel
theorem dX5_has_4 : decode cX5_has 4 = .ok (.aload_n 0, 1) := by decide +kernel
theorem dX5_has_5 : decode cX5_has 5 = .ok (.getfield 127, 3) := by decide +kernel
theorem dX5_has_8 : decode cX5_has 8 = .ok (.iload_n 1, 1) := by decide +kernel
theorem dX5_has_9 : decode cX5_has 9 = .ok (.iadd, 1) := by decide +kernel
theorem dX5_has_10 : decode cX5_has 10 = .ok (.aload_n 0, 1) := by decide +kernel
theorem dX5_has_11 : decode cX5_has 11 = .ok (.getfield 115, 3) := by decide +kernel
theorem dX5_has_14 : decode cX5_has 14 = .ok (.if_icmp .ge 22, 3) := by decide +kernel
theorem dX5_has_17 : decode cX5_has 17 = .ok (.aload_n 0, 1) := by decide +kernel
theorem dX5_has_18 : decode cX5_has 18 = .ok (.getfield 19, 3) := by decide +kernel
theorem dX5_has_21 : decode cX5_has 21 = .ok (.aload_n 0, 1) := by decide +kernel
theorem dX5_has_22 : decode cX5_has 22 = .ok (.getfield 127, 3) := by decide +kernel
theorem dX5_has_25 : decode cX5_has 25 = .ok (.iload_n 1, 1) := by decide +kernel
theorem dX5_has_26 : decode cX5_has 26 = .ok (.iadd, 1) := by decide +kernel
theorem dX5_has_27 : decode cX5_has 27 = .ok (.iaload, 1) := by decide +kernel
theorem dX5_has_28 : decode cX5_has 28 = .ok (.iload_n 2, 1) := by decide +kernel
theorem dX5_has_29 : decode cX5_has 29 = .ok (.if_icmp .ne 7, 3) := by decide +kernel
theorem dX5_has_32 : decode cX5_has 32 = .ok (.iconst 1, 1) := by decide +kernel
theorem dX5_has_33 : decode cX5_has 33 = .ok (.goto 4, 3) := by decide +kernel
theorem dX5_has_36 : decode cX5_has 36 = .ok (.iconst 0, 1) := by decide +kernel
theorem dX5_has_37 : decode cX5_has 37 = .ok (.ireturn, 1) := by decide +kernel
theorem dX5_one_0 : decode cX5_one 0 = .ok (.iload_n 0, 1) := by decide +kernel
theorem dX5_one_1 : decode cX5_one 1 = .ok (.ifCond .ne 7, 3) := by decide +kernel
theorem dX5_one_4 : decode cX5_one 4 = .ok (.iconst 0, 1) := by decide +kernel
theorem dX5_one_5 : decode cX5_one 5 = .ok (.goto 4, 3) := by decide +kernel
theorem dX5_one_8 : decode cX5_one 8 = .ok (.iconst 1, 1) := by decide +kernel
theorem dX5_one_9 : decode cX5_one 9 = .ok (.ireturn, 1) := by decide +kernel
set_option maxRecDepth 20000 in
theorem ggX5_sees_X5_has : GoodIn wsX5_sees wsX5_has := goodIn_r _ [6, 1, 7, 8, 12, 13, 14, 15, 16, 17, 18, 19, 20, 21, 22] (by decide +kernel) (by decide +kernel)
set_option maxRecDepth 20000 in
theorem gX5_sees_X5_has : GoodIn wsX5_sees (wsV RX5 130 RX5 yX5_has wsX5_has) := goodIn_app (goodIn_of _ (by decide +kernel)) ggX5_sees_X5_has
set_option maxRecDepth 20000 in
theorem ggX5_sees_X5_one : GoodIn wsX5_sees wsX5_one := goodIn_r _ [11] (by decide +kernel) (by decide +kernel)
set_option maxRecDepth 20000 in
theorem gX5_sees_X5_one : GoodIn wsX5_sees (va_wsS RX5 133 yX5_one wsX5_one) := goodIn_app (goodIn_of _ (by decide +kernel)) ggX5_sees_X5_one
theorem dX5_sees_0 : decode cX5_sees 0 = .ok (.aload_n 0, 1) := by decide +kernel
theorem dX5_sees_1 : decode cX5_sees 1 = .ok (.iconst 0, 1) := by decide +kernel
theorem dX5_sees_2 : decode cX5_sees 2 = .ok (.iload_n 1, 1) := by decide +kernel
theorem dX5_sees_3 : decode cX5_sees 3 = .ok (.invokevirtual 130, 3) := by decide +kernel
theorem dX5_sees_6 : decode cX5_sees 6 = .ok (.ifCond .eq 66, 3) := by decide +kernel
theorem dX5_sees_9 : decode cX5_sees 9 = .ok (.aload_n 0, 1) := by decide +kernel
theorem dX5_sees_10 : decode cX5_sees 10 = .ok (.iconst 1, 1) := by decide +kernel
theorem dX5_sees_11 : decode cX5_sees 11 = .ok (.iload_n 2, 1) := by decide +kernel
theorem dX5_sees_12 : decode cX5_sees 12 = .ok (.invokevirtual 130, 3) := by decide +kernel
theorem dX5_sees_15 : decode cX5_sees 15 = .ok (.ifCond .eq 57, 3) := by decide +kernel
theorem dX5_sees_18 : decode cX5_sees 18 = .ok (.aload_n 0, 1) := by decide +kernel
theorem dX5_sees_19 : decode cX5_sees 19 = .ok (.iconst 2, 1) := by decide +kernel
theorem dX5_sees_20 : decode cX5_sees 20 = .ok (.iload_n 3, 1) := by decide +kernel
theorem dX5_sees_21 : decode cX5_sees 21 = .ok (.invokevirtual 130, 3) := by decide +kernel
theorem dX5_sees_24 : decode cX5_sees 24 = .ok (.ifCond .eq 48, 3) := by decide +kernel
theorem dX5_sees_27 : decode cX5_sees 27 = .ok (.aload_n 0, 1) := by decide +kernel
theorem dX5_sees_28 : decode cX5_sees 28 = .ok (.iconst 3, 1) := by decide +kernel
theorem dX5_sees_29 : decode cX5_sees 29 = .ok (.iload 4, 2) := by decide +kernel
theorem dX5_sees_31 : decode cX5_sees 31 = .ok (.invokevirtual 130, 3) := by decide +kernel
theorem dX5_sees_34 : decode cX5_sees 34 = .ok (.ifCond .eq 38, 3) := by decide +kernel
theorem dX5_sees_37 : decode cX5_sees 37 = .ok (.aload_n 0, 1) := by decide +kernel
theorem dX5_sees_38 : decode cX5_sees 38 = .ok (.iconst 4, 1) := by decide +kernel
theorem dX5_sees_39 : decode cX5_sees 39 = .ok (.iload 5, 2) := by decide +kernel
theorem dX5_sees_41 : decode cX5_sees 41 = .ok (.invokevirtual 130, 3) := by decide +kernel
theorem dX5_sees_44 : decode cX5_sees 44 = .ok (.ifCond .eq 28, 3) := by decide +kernel
theorem dX5_sees_47 : decode cX5_sees 47 = .ok (.aload_n 0, 1) := by decide +kernel
theorem dX5_sees_48 : decode cX5_sees 48 = .ok (.iconst 5, 1) := by decide +kernel
theorem dX5_sees_49 : decode cX5_sees 49 = .ok (.iload 6, 2) := by decide +kernel
theorem dX5_sees_51 : decode cX5_sees 51 = .ok (.invokevirtual 130, 3) := by decide +kernel
theorem dX5_sees_54 : decode cX5_sees 54 = .ok (.ifCond .eq 18, 3) := by decide +kernel
theorem dX5_sees_57 : decode cX5_sees 57 = .ok (.aload_n 0, 1) := by decide +kernel
theorem dX5_sees_58 : decode cX5_sees 58 = .ok (.bipush 6, 2) := by decide +kernel
theorem dX5_sees_60 : decode cX5_sees 60 = .ok (.iload 7, 2) := by decide +kernel
theorem dX5_sees_62 : decode cX5_sees 62 = .ok (.invokevirtual 130, 3) := by decide +kernel
theorem dX5_sees_65 : decode cX5_sees 65 = .ok (.ifCond .eq 7, 3) := by decide +kernel
theorem dX5_sees_68 : decode cX5_sees 68 = .ok (.iconst 1, 1) := by decide +kernel
theorem dX5_sees_69 : decode cX5_sees 69 = .ok (.goto 4, 3) := by decide +kernel
theorem dX5_sees_72 : decode cX5_sees 72 = .ok (.iconst 0, 1) := by decide +kernel
theorem dX5_sees_73 : decode cX5_sees 73 = .ok (.istore 8, 2) := by decide +kernel
theorem dX5_sees_75 : decode cX5_sees 75 = .ok (.aload_n 0, 1) := by decide +kernel
theorem dX5_sees_76 : decode cX5_sees 76 = .ok (.dup, 1) := by decide +kernel
theorem dX5_sees_77 : decode cX5_sees 77 = .ok (.getfield 127, 3) := by decide +kernel
theorem dX5_sees_80 : decode cX5_sees 80 = .ok (.iload 8, 2) := by decide +kernel
theorem dX5_sees_82 : decode cX5_sees 82 = .ok (.ifCond .eq 44, 3) := by decide +kernel
theorem dX5_sees_85 : decode cX5_sees 85 = .ok (.iload_n 1, 1) := by decide +kernel
theorem dX5_sees_86 : decode cX5_sees 86 = .ok (.invokestatic 133, 3) := by decide +kernel
theorem dX5_sees_89 : decode cX5_sees 89 = .ok (.iload_n 2, 1) := by decide +kernel
theorem dX5_sees_90 : decode cX5_sees 90 = .ok (.invokestatic 133, 3) := by decide +kernel
theorem dX5_sees_93 : decode cX5_sees 93 = .ok (.iadd, 1) := by decide +kernel
theorem dX5_sees_94 : decode cX5_sees 94 = .ok (.iload_n 3, 1) := by decide +kernel
theorem dX5_sees_95 : decode cX5_sees 95 = .ok (.invokestatic 133, 3) := by decide +kernel
theorem dX5_sees_98 : decode cX5_sees 98 = .ok (.iadd, 1) := by decide +kernel
theorem dX5_sees_99 : decode cX5_sees 99 = .ok (.iload 4, 2) := by decide +kernel
theorem dX5_sees_101 : decode cX5_sees 101 = .ok (.invokestatic 133, 3) := by decide +kernel
theorem dX5_sees_104 : decode cX5_sees 104 = .ok (.iadd, 1) := by decide +kernel
theorem dX5_sees_105 : decode cX5_sees 105 = .ok (.iload 5, 2) := by decide +kernel
theorem dX5_sees_107 : decode cX5_sees 107 = .ok (.invokestatic 133, 3) := by decide +kernel
theorem dX5_sees_110 : decode cX5_sees 110 = .ok (.iadd, 1) := by decide +kernel
theorem dX5_sees_111 : decode cX5_sees 111 = .ok (.iload 6, 2) := by decide +kernel
theorem dX5_sees_113 : decode cX5_sees 113 = .ok (.invokestatic 133, 3) := by decide +kernel
theorem dX5_sees_116 : decode cX5_sees 116 = .ok (.iadd, 1) := by decide +kernel
theorem dX5_sees_117 : decode cX5_sees 117 = .ok (.iload 7, 2) := by decide +kernel
theorem dX5_sees_119 : decode cX5_sees 119 = .ok (.invokestatic 133, 3) := by decide +kernel
theorem dX5_sees_122 : decode cX5_sees 122 = .ok (.iadd, 1) := by decide +kernel
theorem dX5_sees_123 : decode cX5_sees 123 = .ok (.goto 4, 3) := by decide +kernel
theorem dX5_sees_126 : decode cX5_sees 126 = .ok (.iconst 0, 1) := by decide +kernel
theorem dX5_sees_127 : decode cX5_sees 127 = .ok (.iadd, 1) := by decide +kernel
theorem dX5_sees_128 : decode cX5_sees 128 = .ok (.putfield 127, 3) := by decide +kernel
theorem dX5_sees_131 : decode cX5_sees 131 = .ok (.iload 8, 2) := by decide +kernel
theorem dX5_sees_133 : decode cX5_sees 133 = .ok (.ireturn, 1) := by decide +kernel
set_option maxRecDepth 20000 in
theorem ggX5_number_X5_in : GoodIn wsX5_number wsX5_in := goodIn_r _ [7] (by decide +kernel) (by decide +kernel)
set_option maxRecDepth 20000 in
theorem gX5_number_X5_in : GoodIn wsX5_number (va_wsS RX5 30 yX5_in wsX5_in) := goodIn_app (goodIn_of _ (by decide +kernel)) ggX5_number_X5_in
theorem dX5_number_0 : decode cX5_number 0 = .ok (.iconst (-1), 1) := by decide +kernel
theorem dX5_number_1 : decode cX5_number 1 = .ok (.istore_n 1, 1) := by decide +kernel
theorem dX5_number_2 : decode cX5_number 2 = .ok (.iconst 0, 1) := by decide +kernel
theorem dX5_number_3 : decode cX5_number 3 = .ok (.istore_n 2, 1) := by decide +kernel
theorem dX5_number_4 : decode cX5_number 4 = .ok (.iload_n 2, 1) := by decide +kernel
theorem dX5_number_5 : decode cX5_number 5 = .ok (.iconst 3, 1) := by decide +kernel
theorem dX5_number_6 : decode cX5_number 6 = .ok (.if_icmp .ge 75, 3) := by decide +kernel
theorem dX5_number_9 : decode cX5_number 9 = .ok (.aload_n 0, 1) := by decide +kernel
theorem dX5_number_10 : decode cX5_number 10 = .ok (.getfield 127, 3) := by decide +kernel
theorem dX5_number_13 : decode cX5_number 13 = .ok (.aload_n 0, 1) := by decide +kernel
theorem dX5_number_14 : decode cX5_number 14 = .ok (.getfield 115, 3) := by decide +kernel
theorem dX5_number_17 : decode cX5_number 17 = .ok (.if_icmp .ge 64, 3) := by decide +kernel
theorem dX5_number_20 : decode cX5_number 20 = .ok (.aload_n 0, 1) := by decide +kernel
theorem dX5_number_21 : decode cX5_number 21 = .ok (.getfield 19, 3) := by decide +kernel
theorem dX5_number_24 : decode cX5_number 24 = .ok (.aload_n 0, 1) := by decide +kernel
theorem dX5_number_25 : decode cX5_number 25 = .ok (.getfield 127, 3) := by decide +kernel
theorem dX5_number_28 : decode cX5_number 28 = .ok (.iaload, 1) := by decide +kernel
theorem dX5_number_29 : decode cX5_number 29 = .ok (.bipush 48, 2) := by decide +kernel
theorem dX5_number_31 : decode cX5_number 31 = .ok (.bipush 57, 2) := by decide +kernel
theorem dX5_number_33 : decode cX5_number 33 = .ok (.invokestatic 30, 3) := by decide +kernel
theorem dX5_number_36 : decode cX5_number 36 = .ok (.ifCond .eq 45, 3) := by decide +kernel
theorem dX5_number_39 : decode cX5_number 39 = .ok (.iload_n 1, 1) := by decide +kernel
theorem dX5_number_40 : decode cX5_number 40 = .ok (.ifCond .ge 7, 3) := by decide +kernel
theorem dX5_number_43 : decode cX5_number 43 = .ok (.iconst 0, 1) := by decide +kernel
theorem dX5_number_44 : decode cX5_number 44 = .ok (.goto 7, 3) := by decide +kernel
theorem dX5_number_47 : decode cX5_number 47 = .ok (.bipush 10, 2) := by decide +kernel
theorem dX5_number_49 : decode cX5_number 49 = .ok (.iload_n 1, 1) := by decide +kernel
theorem dX5_number_50 : decode cX5_number 50 = .ok (.imul, 1) := by decide +kernel
theorem dX5_number_51 : decode cX5_number 51 = .ok (.aload_n 0, 1) := by decide +kernel
theorem dX5_number_52 : decode cX5_number 52 = .ok (.getfield 19, 3) := by decide +kernel
theorem dX5_number_55 : decode cX5_number 55 = .ok (.aload_n 0, 1) := by decide +kernel
theorem dX5_number_56 : decode cX5_number 56 = .ok (.getfield 127, 3) := by decide +kernel
theorem dX5_number_59 : decode cX5_number 59 = .ok (.iaload, 1) := by decide +kernel
theorem dX5_number_60 : decode cX5_number 60 = .ok (.iadd, 1) := by decide +kernel
theorem dX5_number_61 : decode cX5_number 61 = .ok (.bipush 48, 2) := by decide +kernel
theorem dX5_number_63 : decode cX5_number 63 = .ok (.isub, 1) := by decide +kernel
theorem dX5_number_64 : decode cX5_number 64 = .ok (.istore_n 1, 1) := by decide +kernel
theorem dX5_number_65 : decode cX5_number 65 = .ok (.aload_n 0, 1) := by decide +kernel
theorem dX5_number_66 : decode cX5_number 66 = .ok (.dup, 1) := by decide +kernel
theorem dX5_number_67 : decode cX5_number 67 = .ok (.getfield 127, 3) := by decide +kernel
theorem dX5_number_70 : decode cX5_number 70 = .ok (.iconst 1, 1) := by decide +kernel
theorem dX5_number_71 : decode cX5_number 71 = .ok (.iadd, 1) := by decide +kernel
theorem dX5_number_72 : decode cX5_number 72 = .ok (.putfield 127, 3) := by decide +kernel
theorem dX5_number_75 : decode cX5_number 75 = .ok (.iinc 2 1, 3) := by decide +kernel
theorem dX5_number_78 : decode cX5_number 78 = .ok (.goto (-74), 3) := by decide +kernel
theorem dX5_number_81 : decode cX5_number 81 = .ok (.iload_n 1, 1) := by decide +kernel
theorem dX5_number_82 : decode cX5_number 82 = .ok (.ireturn, 1) := by decide +kernel
set_option maxRecDepth 20000 in
theorem ggX5_wordAt_X5_sees : GoodIn wsX5_wordAt wsX5_sees := goodIn_r _ [5, 6, 7, 8, 9, 4, 10, 11, 12, 13, 14, 15, 16, 17, 18, 19, 20, 21, 22, 23, 24, 25, 26] (by decide +kernel) (by decide +kernel)
set_option maxRecDepth 20000 in
theorem gX5_wordAt_X5_sees : GoodIn wsX5_wordAt (wsV RX5 136 RX5 yX5_sees wsX5_sees) := goodIn_app (goodIn_of _ (by decide +kernel)) ggX5_wordAt_X5_sees
theorem dX5_wordAt_0 : decode cX5_wordAt 0 = .ok (.aload_n 0, 1) := by decide +kernel
theorem dX5_wordAt_1 : decode cX5_wordAt 1 = .ok (.bipush 99, 2) := by decide +kernel
theorem dX5_wordAt_3 : decode cX5_wordAt 3 = .ok (.bipush 108, 2) := by decide +kernel
theorem dX5_wordAt_5 : decode cX5_wordAt 5 = .ok (.bipush 101, 2) := by decide +kernel
theorem dX5_wordAt_7 : decode cX5_wordAt 7 = .ok (.bipush 114, 2) := by decide +kernel
theorem dX5_wordAt_9 : decode cX5_wordAt 9 = .ok (.bipush 107, 2) := by decide +kernel
theorem dX5_wordAt_11 : decode cX5_wordAt 11 = .ok (.bipush 32, 2) := by decide +kernel
theorem dX5_wordAt_13 : decode cX5_wordAt 13 = .ok (.iconst 0, 1) := by decide +kernel
theorem dX5_wordAt_14 : decode cX5_wordAt 14 = .ok (.invokevirtual 136, 3) := by decide +kernel
theorem dX5_wordAt_17 : decode cX5_wordAt 17 = .ok (.ifCond .eq 5, 3) := by decide +kernel
theorem dX5_wordAt_20 : decode cX5_wordAt 20 = .ok (.iconst 0, 1) := by decide +kernel
theorem dX5_wordAt_21 : decode cX5_wordAt 21 = .ok (.ireturn, 1) := by decide +kernel
theorem dX5_wordAt_22 : decode cX5_wordAt 22 = .ok (.aload_n 0, 1) := by decide +kernel
theorem dX5_wordAt_23 : decode cX5_wordAt 23 = .ok (.bipush 97, 2) := by decide +kernel
theorem dX5_wordAt_25 : decode cX5_wordAt 25 = .ok (.bipush 115, 2) := by decide +kernel
theorem dX5_wordAt_27 : decode cX5_wordAt 27 = .ok (.bipush 107, 2) := by decide +kernel
theorem dX5_wordAt_29 : decode cX5_wordAt 29 = .ok (.bipush 32, 2) := by decide +kernel
theorem dX5_wordAt_31 : decode cX5_wordAt 31 = .ok (.iconst 0, 1) := by decide +kernel
theorem dX5_wordAt_32 : decode cX5_wordAt 32 = .ok (.iconst 0, 1) := by decide +kernel
theorem dX5_wordAt_33 : decode cX5_wordAt 33 = .ok (.iconst 0, 1) := by decide +kernel
theorem dX5_wordAt_34 : decode cX5_wordAt 34 = .ok (.invokevirtual 136, 3) := by decide +kernel
theorem dX5_wordAt_37 : decode cX5_wordAt 37 = .ok (.ifCond .eq 5, 3) := by decide +kernel
theorem dX5_wordAt_40 : decode cX5_wordAt 40 = .ok (.iconst 1, 1) := by decide +kernel
theorem dX5_wordAt_41 : decode cX5_wordAt 41 = .ok (.ireturn, 1) := by decide +kernel
theorem dX5_wordAt_42 : decode cX5_wordAt 42 = .ok (.aload_n 0, 1) := by decide +kernel
theorem dX5_wordAt_43 : decode cX5_wordAt 43 = .ok (.bipush 102, 2) := by decide +kernel
theorem dX5_wordAt_45 : decode cX5_wordAt 45 = .ok (.bipush 111, 2) := by decide +kernel
theorem dX5_wordAt_47 : decode cX5_wordAt 47 = .ok (.bipush 114, 2) := by decide +kernel
theorem dX5_wordAt_49 : decode cX5_wordAt 49 = .ok (.bipush 103, 2) := by decide +kernel
theorem dX5_wordAt_51 : decode cX5_wordAt 51 = .ok (.bipush 101, 2) := by decide +kernel
theorem dX5_wordAt_53 : decode cX5_wordAt 53 = .ok (.bipush 116, 2) := by decide +kernel
theorem dX5_wordAt_55 : decode cX5_wordAt 55 = .ok (.bipush 32, 2) := by decide +kernel
theorem dX5_wordAt_57 : decode cX5_wordAt 57 = .ok (.invokevirtual 136, 3) := by decide +kernel
theorem dX5_wordAt_60 : decode cX5_wordAt 60 = .ok (.ifCond .eq 5, 3) := by decide +kernel
theorem dX5_wordAt_63 : decode cX5_wordAt 63 = .ok (.iconst 2, 1) := by decide +kernel
theorem dX5_wordAt_64 : decode cX5_wordAt 64 = .ok (.ireturn, 1) := by decide +kernel
theorem dX5_wordAt_65 : decode cX5_wordAt 65 = .ok (.aload_n 0, 1) := by decide +kernel
theorem dX5_wordAt_66 : decode cX5_wordAt 66 = .ok (.bipush 98, 2) := by decide +kernel
theorem dX5_wordAt_68 : decode cX5_wordAt 68 = .ok (.bipush 97, 2) := by decide +kernel
theorem dX5_wordAt_70 : decode cX5_wordAt 70 = .ok (.bipush 99, 2) := by decide +kernel
theorem dX5_wordAt_72 : decode cX5_wordAt 72 = .ok (.bipush 107, 2) := by decide +kernel
theorem dX5_wordAt_74 : decode cX5_wordAt 74 = .ok (.bipush 32, 2) := by decide +kernel
theorem dX5_wordAt_76 : decode cX5_wordAt 76 = .ok (.iconst 0, 1) := by decide +kernel
theorem dX5_wordAt_77 : decode cX5_wordAt 77 = .ok (.iconst 0, 1) := by decide +kernel
theorem dX5_wordAt_78 : decode cX5_wordAt 78 = .ok (.invokevirtual 136, 3) := by decide +kernel
theorem dX5_wordAt_81 : decode cX5_wordAt 81 = .ok (.ifCond .eq 5, 3) := by decide +kernel
theorem dX5_wordAt_84 : decode cX5_wordAt 84 = .ok (.iconst 3, 1) := by decide +kernel
theorem dX5_wordAt_85 : decode cX5_wordAt 85 = .ok (.ireturn, 1) := by decide +kernel
theorem dX5_wordAt_86 : decode cX5_wordAt 86 = .ok (.aload_n 0, 1) := by decide +kernel
theorem dX5_wordAt_87 : decode cX5_wordAt 87 = .ok (.bipush 118, 2) := by decide +kernel
theorem dX5_wordAt_89 : decode cX5_wordAt 89 = .ok (.bipush 111, 2) := by decide +kernel
theorem dX5_wordAt_91 : decode cX5_wordAt 91 = .ok (.bipush 105, 2) := by decide +kernel
theorem dX5_wordAt_93 : decode cX5_wordAt 93 = .ok (.bipush 100, 2) := by decide +kernel
theorem dX5_wordAt_95 : decode cX5_wordAt 95 = .ok (.bipush 32, 2) := by decide +kernel
theorem dX5_wordAt_97 : decode cX5_wordAt 97 = .ok (.iconst 0, 1) := by decide +kernel
theorem dX5_wordAt_98 : decode cX5_wordAt 98 = .ok (.iconst 0, 1) := by decide +kernel
theorem dX5_wordAt_99 : decode cX5_wordAt 99 = .ok (.invokevirtual 136, 3) := by decide +kernel
theorem dX5_wordAt_102 : decode cX5_wordAt 102 = .ok (.ifCond .eq 5, 3) := by decide +kernel
theorem dX5_wordAt_105 : decode cX5_wordAt 105 = .ok (.iconst 4, 1) := by decide +kernel
theorem dX5_wordAt_106 : decode cX5_wordAt 106 = .ok (.ireturn, 1) := by decide +kernel
theorem dX5_wordAt_107 : decode cX5_wordAt 107 = .ok (.aload_n 0, 1) := by decide +kernel
theorem dX5_wordAt_108 : decode cX5_wordAt 108 = .ok (.bipush 99, 2) := by decide +kernel
theorem dX5_wordAt_110 : decode cX5_wordAt 110 = .ok (.bipush 108, 2) := by decide +kernel
theorem dX5_wordAt_112 : decode cX5_wordAt 112 = .ok (.bipush 111, 2) := by decide +kernel
theorem dX5_wordAt_114 : decode cX5_wordAt 114 = .ok (.bipush 115, 2) := by decide +kernel
theorem dX5_wordAt_116 : decode cX5_wordAt 116 = .ok (.bipush 101, 2) := by decide +kernel
theorem dX5_wordAt_118 : decode cX5_wordAt 118 = .ok (.iconst 0, 1) := by decide +kernel
theorem dX5_wordAt_119 : decode cX5_wordAt 119 = .ok (.iconst 0, 1) := by decide +kernel
theorem dX5_wordAt_120 : decode cX5_wordAt 120 = .ok (.invokevirtual 136, 3) := by decide +kernel
theorem dX5_wordAt_123 : decode cX5_wordAt 123 = .ok (.ifCond .eq 7, 3) := by decide +kernel
theorem dX5_wordAt_126 : decode cX5_wordAt 126 = .ok (.iconst 5, 1) := by decide +kernel
theorem dX5_wordAt_127 : decode cX5_wordAt 127 = .ok (.goto 4, 3) := by decide +kernel
theorem dX5_wordAt_130 : decode cX5_wordAt 130 = .ok (.iconst (-1), 1) := by decide +kernel
theorem dX5_wordAt_131 : decode cX5_wordAt 131 = .ok (.ireturn, 1) := by decide +kernel
set_option maxRecDepth 20000 in
theorem ggX5_kindAt_X5_sees : GoodIn wsX5_kindAt wsX5_sees := goodIn_r _ [5, 6, 7, 8, 9, 4, 10, 11, 12, 13, 14, 15, 16, 17, 18, 19, 20, 21, 22, 23, 24, 25, 26] (by decide +kernel) (by decide +kernel)
set_option maxRecDepth 20000 in
theorem gX5_kindAt_X5_sees : GoodIn wsX5_kindAt (wsV RX5 136 RX5 yX5_sees wsX5_sees) := goodIn_app (goodIn_of _ (by decide +kernel)) ggX5_kindAt_X5_sees
theorem dX5_kindAt_0 : decode cX5_kindAt 0 = .ok (.aload_n 0, 1) := by decide +kernel
theorem dX5_kindAt_1 : decode cX5_kindAt 1 = .ok (.bipush 99, 2) := by decide +kernel
theorem dX5_kindAt_3 : decode cX5_kindAt 3 = .ok (.bipush 97, 2) := by decide +kernel
theorem dX5_kindAt_5 : decode cX5_kindAt 5 = .ok (.bipush 114, 2) := by decide +kernel
theorem dX5_kindAt_7 : decode cX5_kindAt 7 = .ok (.bipush 101, 2) := by decide +kernel
theorem dX5_kindAt_9 : decode cX5_kindAt 9 = .ok (.bipush 102, 2) := by decide +kernel
theorem dX5_kindAt_11 : decode cX5_kindAt 11 = .ok (.bipush 117, 2) := by decide +kernel
theorem dX5_kindAt_13 : decode cX5_kindAt 13 = .ok (.bipush 108, 2) := by decide +kernel
theorem dX5_kindAt_15 : decode cX5_kindAt 15 = .ok (.invokevirtual 136, 3) := by decide +kernel
theorem dX5_kindAt_18 : decode cX5_kindAt 18 = .ok (.ifCond .eq 5, 3) := by decide +kernel
theorem dX5_kindAt_21 : decode cX5_kindAt 21 = .ok (.iconst 0, 1) := by decide +kernel
theorem dX5_kindAt_22 : decode cX5_kindAt 22 = .ok (.ireturn, 1) := by decide +kernel
theorem dX5_kindAt_23 : decode cX5_kindAt 23 = .ok (.aload_n 0, 1) := by decide +kernel
theorem dX5_kindAt_24 : decode cX5_kindAt 24 = .ok (.bipush 108, 2) := by decide +kernel
theorem dX5_kindAt_26 : decode cX5_kindAt 26 = .ok (.bipush 97, 2) := by decide +kernel
theorem dX5_kindAt_28 : decode cX5_kindAt 28 = .ok (.bipush 122, 2) := by decide +kernel
theorem dX5_kindAt_30 : decode cX5_kindAt 30 = .ok (.bipush 121, 2) := by decide +kernel
theorem dX5_kindAt_32 : decode cX5_kindAt 32 = .ok (.iconst 0, 1) := by decide +kernel
theorem dX5_kindAt_33 : decode cX5_kindAt 33 = .ok (.iconst 0, 1) := by decide +kernel
theorem dX5_kindAt_34 : decode cX5_kindAt 34 = .ok (.iconst 0, 1) := by decide +kernel
theorem dX5_kindAt_35 : decode cX5_kindAt 35 = .ok (.invokevirtual 136, 3) := by decide +kernel
theorem dX5_kindAt_38 : decode cX5_kindAt 38 = .ok (.ifCond .eq 5, 3) := by decide +kernel
theorem dX5_kindAt_41 : decode cX5_kindAt 41 = .ok (.iconst 1, 1) := by decide +kernel
theorem dX5_kindAt_42 : decode cX5_kindAt 42 = .ok (.ireturn, 1) := by decide +kernel
theorem dX5_kindAt_43 : decode cX5_kindAt 43 = .ok (.aload_n 0, 1) := by decide +kernel
theorem dX5_kindAt_44 : decode cX5_kindAt 44 = .ok (.bipush 100, 2) := by decide +kernel
theorem dX5_kindAt_46 : decode cX5_kindAt 46 = .ok (.bipush 114, 2) := by decide +kernel
theorem dX5_kindAt_48 : decode cX5_kindAt 48 = .ok (.bipush 101, 2) := by decide +kernel
theorem dX5_kindAt_50 : decode cX5_kindAt 50 = .ok (.bipush 97, 2) := by decide +kernel
theorem dX5_kindAt_52 : decode cX5_kindAt 52 = .ok (.bipush 109, 2) := by decide +kernel
theorem dX5_kindAt_54 : decode cX5_kindAt 54 = .ok (.bipush 121, 2) := by decide +kernel
theorem dX5_kindAt_56 : decode cX5_kindAt 56 = .ok (.iconst 0, 1) := by decide +kernel
theorem dX5_kindAt_57 : decode cX5_kindAt 57 = .ok (.invokevirtual 136, 3) := by decide +kernel
theorem dX5_kindAt_60 : decode cX5_kindAt 60 = .ok (.ifCond .eq 7, 3) := by decide +kernel
theorem dX5_kindAt_63 : decode cX5_kindAt 63 = .ok (.iconst 2, 1) := by decide +kernel
theorem dX5_kindAt_64 : decode cX5_kindAt 64 = .ok (.goto 4, 3) := by decide +kernel
theorem dX5_kindAt_67 : decode cX5_kindAt 67 = .ok (.iconst (-1), 1) := by decide +kernel
theorem dX5_kindAt_68 : decode cX5_kindAt 68 = .ok (.ireturn, 1) := by decide +kernel
set_option maxRecDepth 20000 in
theorem ggX5_isForm_X5_wordAt : GoodIn wsX5_isForm wsX5_wordAt := goodIn_r _ [8, 9, 10, 11, 7, 12, 13, 14, 15, 16, 17, 18, 19, 20, 21, 22, 34, 35, 36, 37, 38, 39, 40, 41, 42, 43, 44] (by decide +kernel) (by decide +kernel)
set_option maxRecDepth 20000 in
theorem gX5_isForm_X5_wordAt : GoodIn wsX5_isForm (wsV RX5 140 RX5 yX5_wordAt wsX5_wordAt) := goodIn_app (goodIn_of _ (by decide +kernel)) ggX5_isForm_X5_wordAt
set_option maxRecDepth 20000 in
theorem ggX5_isForm_X5_kindAt : GoodIn wsX5_isForm wsX5_kindAt := goodIn_r _ [26, 9, 10, 11, 7, 12, 13, 14, 15, 16, 17, 18, 19, 20, 21, 22, 34, 35, 36, 37, 38, 39, 40, 41, 42, 43, 44] (by decide +kernel) (by decide +kernel)
set_option maxRecDepth 20000 in
theorem gX5_isForm_X5_kindAt : GoodIn wsX5_isForm (wsV RX5 152 RX5 yX5_kindAt wsX5_kindAt) := goodIn_app (goodIn_of _ (by decide +kernel)) ggX5_isForm_X5_kindAt
set_option maxRecDepth 20000 in
theorem ggX5_isForm_X5_number : GoodIn wsX5_isForm wsX5_number := goodIn_r _ [30, 13, 18, 19, 31, 32, 7, 33, 34, 35, 36, 37, 38, 39, 40, 41, 42, 43, 44] (by decide +kernel) (by decide +kernel)
set_option maxRecDepth 20000 in
theorem gX5_isForm_X5_number : GoodIn wsX5_isForm (wsV RX5 155 RX5 yX5_number wsX5_number) := goodIn_app (goodIn_of _ (by decide +kernel)) ggX5_isForm_X5_number
set_option maxRecDepth 20000 in
theorem ggX5_isForm_X5_sees : GoodIn wsX5_isForm wsX5_sees := goodIn_r _ [12, 13, 14, 15, 16, 7, 17, 18, 19, 20, 21, 22, 34, 35, 36, 37, 38, 39, 40, 41, 42, 43, 44] (by decide +kernel) (by decide +kernel)
set_option maxRecDepth 20000 in
theorem gX5_isForm_X5_sees : GoodIn wsX5_isForm (wsV RX5 136 RX5 yX5_sees wsX5_sees) := goodIn_app (goodIn_of _ (by decide +kernel)) ggX5_isForm_X5_sees
theorem dX5_isForm_0 : decode cX5_isForm 0 = .ok (.aload_n 0, 1) := by decide +kernel
theorem dX5_isForm_1 : decode cX5_isForm 1 = .ok (.aload_n 0, 1) := by decide +kernel
theorem dX5_isForm_2 : decode cX5_isForm 2 = .ok (.invokevirtual 140, 3) := by decide +kernel
theorem dX5_isForm_5 : decode cX5_isForm 5 = .ok (.putfield 143, 3) := by decide +kernel
theorem dX5_isForm_8 : decode cX5_isForm 8 = .ok (.aload_n 0, 1) := by decide +kernel
theorem dX5_isForm_9 : decode cX5_isForm 9 = .ok (.iconst 0, 1) := by decide +kernel
theorem dX5_isForm_10 : decode cX5_isForm 10 = .ok (.putfield 146, 3) := by decide +kernel
theorem dX5_isForm_13 : decode cX5_isForm 13 = .ok (.aload_n 0, 1) := by decide +kernel
theorem dX5_isForm_14 : decode cX5_isForm 14 = .ok (.iconst 1, 1) := by decide +kernel
theorem dX5_isForm_15 : decode cX5_isForm 15 = .ok (.putfield 149, 3) := by decide +kernel
theorem dX5_isForm_18 : decode cX5_isForm 18 = .ok (.aload_n 0, 1) := by decide +kernel
theorem dX5_isForm_19 : decode cX5_isForm 19 = .ok (.getfield 143, 3) := by decide +kernel
theorem dX5_isForm_22 : decode cX5_isForm 22 = .ok (.ifCond .ge 5, 3) := by decide +kernel
theorem dX5_isForm_25 : decode cX5_isForm 25 = .ok (.iconst 0, 1) := by decide +kernel
theorem dX5_isForm_26 : decode cX5_isForm 26 = .ok (.ireturn, 1) := by decide +kernel
theorem dX5_isForm_27 : decode cX5_isForm 27 = .ok (.aload_n 0, 1) := by decide +kernel
theorem dX5_isForm_28 : decode cX5_isForm 28 = .ok (.getfield 143, 3) := by decide +kernel
theorem dX5_isForm_31 : decode cX5_isForm 31 = .ok (.ifCond .ne 14, 3) := by decide +kernel
theorem dX5_isForm_34 : decode cX5_isForm 34 = .ok (.aload_n 0, 1) := by decide +kernel
theorem dX5_isForm_35 : decode cX5_isForm 35 = .ok (.aload_n 0, 1) := by decide +kernel
theorem dX5_isForm_36 : decode cX5_isForm 36 = .ok (.invokevirtual 152, 3) := by decide +kernel
theorem dX5_isForm_39 : decode cX5_isForm 39 = .ok (.putfield 146, 3) := by decide +kernel
theorem dX5_isForm_42 : decode cX5_isForm 42 = .ok (.goto 19, 3) := by decide +kernel
theorem dX5_isForm_45 : decode cX5_isForm 45 = .ok (.aload_n 0, 1) := by decide +kernel
theorem dX5_isForm_46 : decode cX5_isForm 46 = .ok (.getfield 143, 3) := by decide +kernel
theorem dX5_isForm_49 : decode cX5_isForm 49 = .ok (.iconst 5, 1) := by decide +kernel
theorem dX5_isForm_50 : decode cX5_isForm 50 = .ok (.if_icmp .ge 11, 3) := by decide +kernel
theorem dX5_isForm_53 : decode cX5_isForm 53 = .ok (.aload_n 0, 1) := by decide +kernel
theorem dX5_isForm_54 : decode cX5_isForm 54 = .ok (.aload_n 0, 1) := by decide +kernel
theorem dX5_isForm_55 : decode cX5_isForm 55 = .ok (.invokevirtual 155, 3) := by decide +kernel
theorem dX5_isForm_58 : decode cX5_isForm 58 = .ok (.putfield 146, 3) := by decide +kernel
theorem dX5_isForm_61 : decode cX5_isForm 61 = .ok (.aload_n 0, 1) := by decide +kernel
theorem dX5_isForm_62 : decode cX5_isForm 62 = .ok (.getfield 146, 3) := by decide +kernel
theorem dX5_isForm_65 : decode cX5_isForm 65 = .ok (.ifCond .lt 38, 3) := by decide +kernel
theorem dX5_isForm_68 : decode cX5_isForm 68 = .ok (.aload_n 0, 1) := by decide +kernel
theorem dX5_isForm_69 : decode cX5_isForm 69 = .ok (.getfield 143, 3) := by decide +kernel
theorem dX5_isForm_72 : decode cX5_isForm 72 = .ok (.iconst 1, 1) := by decide +kernel
theorem dX5_isForm_73 : decode cX5_isForm 73 = .ok (.if_icmp .ne 30, 3) := by decide +kernel
theorem dX5_isForm_76 : decode cX5_isForm 76 = .ok (.aload_n 0, 1) := by decide +kernel
theorem dX5_isForm_77 : decode cX5_isForm 77 = .ok (.aload_n 0, 1) := by decide +kernel
theorem dX5_isForm_78 : decode cX5_isForm 78 = .ok (.bipush 32, 2) := by decide +kernel
theorem dX5_isForm_80 : decode cX5_isForm 80 = .ok (.iconst 0, 1) := by decide +kernel
theorem dX5_isForm_81 : decode cX5_isForm 81 = .ok (.iconst 0, 1) := by decide +kernel
theorem dX5_isForm_82 : decode cX5_isForm 82 = .ok (.iconst 0, 1) := by decide +kernel
theorem dX5_isForm_83 : decode cX5_isForm 83 = .ok (.iconst 0, 1) := by decide +kernel
theorem dX5_isForm_84 : decode cX5_isForm 84 = .ok (.iconst 0, 1) := by decide +kernel
theorem dX5_isForm_85 : decode cX5_isForm 85 = .ok (.iconst 0, 1) := by decide +kernel
theorem dX5_isForm_86 : decode cX5_isForm 86 = .ok (.invokevirtual 136, 3) := by decide +kernel
theorem dX5_isForm_89 : decode cX5_isForm 89 = .ok (.ifCond .eq 10, 3) := by decide +kernel
theorem dX5_isForm_92 : decode cX5_isForm 92 = .ok (.aload_n 0, 1) := by decide +kernel
theorem dX5_isForm_93 : decode cX5_isForm 93 = .ok (.invokevirtual 155, 3) := by decide +kernel
theorem dX5_isForm_96 : decode cX5_isForm 96 = .ok (.goto 4, 3) := by decide +kernel
theorem dX5_isForm_99 : decode cX5_isForm 99 = .ok (.iconst (-1), 1) := by decide +kernel
theorem dX5_isForm_100 : decode cX5_isForm 100 = .ok (.putfield 149, 3) := by decide +kernel
theorem dX5_isForm_103 : decode cX5_isForm 103 = .ok (.aload_n 0, 1) := by decide +kernel
theorem dX5_isForm_104 : decode cX5_isForm 104 = .ok (.getfield 146, 3) := by decide +kernel
theorem dX5_isForm_107 : decode cX5_isForm 107 = .ok (.ifCond .lt 29, 3) := by decide +kernel
theorem dX5_isForm_110 : decode cX5_isForm 110 = .ok (.aload_n 0, 1) := by decide +kernel
theorem dX5_isForm_111 : decode cX5_isForm 111 = .ok (.getfield 149, 3) := by decide +kernel
theorem dX5_isForm_114 : decode cX5_isForm 114 = .ok (.ifCond .lt 22, 3) := by decide +kernel
theorem dX5_isForm_117 : decode cX5_isForm 117 = .ok (.aload_n 0, 1) := by decide +kernel
theorem dX5_isForm_118 : decode cX5_isForm 118 = .ok (.bipush 59, 2) := by decide +kernel
theorem dX5_isForm_120 : decode cX5_isForm 120 = .ok (.iconst 0, 1) := by decide +kernel
theorem dX5_isForm_121 : decode cX5_isForm 121 = .ok (.iconst 0, 1) := by decide +kernel
theorem dX5_isForm_122 : decode cX5_isForm 122 = .ok (.iconst 0, 1) := by decide +kernel
theorem dX5_isForm_123 : decode cX5_isForm 123 = .ok (.iconst 0, 1) := by decide +kernel
theorem dX5_isForm_124 : decode cX5_isForm 124 = .ok (.iconst 0, 1) := by decide +kernel
theorem dX5_isForm_125 : decode cX5_isForm 125 = .ok (.iconst 0, 1) := by decide +kernel
theorem dX5_isForm_126 : decode cX5_isForm 126 = .ok (.invokevirtual 136, 3) := by decide +kernel
theorem dX5_isForm_129 : decode cX5_isForm 129 = .ok (.ifCond .eq 7, 3) := by decide +kernel
theorem dX5_isForm_132 : decode cX5_isForm 132 = .ok (.iconst 1, 1) := by decide +kernel
theorem dX5_isForm_133 : decode cX5_isForm 133 = .ok (.goto 4, 3) := by decide +kernel
theorem dX5_isForm_136 : decode cX5_isForm 136 = .ok (.iconst 0, 1) := by decide +kernel
theorem dX5_isForm_137 : decode cX5_isForm 137 = .ok (.ireturn, 1) := by decide +kernel
set_option maxRecDepth 20000 in
theorem ggX5_isRange_X5_isClerk : GoodIn wsX5_isRange wsX5_isClerk := goodIn_r _ [8, 9, 10, 11, 7, 12, 16, 17, 18, 19, 20, 21, 22, 23, 24, 25, 26] (by decide +kernel) (by decide +kernel)
set_option maxRecDepth 20000 in
theorem gX5_isRange_X5_isClerk : GoodIn wsX5_isRange (wsV RX5 63 RX5 yX5_isClerk wsX5_isClerk) := goodIn_app (goodIn_of _ (by decide +kernel)) ggX5_isRange_X5_isClerk
set_option maxRecDepth 20000 in
theorem ggX5_isRange_X5_in : GoodIn wsX5_isRange wsX5_in := goodIn_r _ [12] (by decide +kernel) (by decide +kernel)
set_option maxRecDepth 20000 in
theorem gX5_isRange_X5_in : GoodIn wsX5_isRange (va_wsS RX5 30 yX5_in wsX5_in) := goodIn_app (goodIn_of _ (by decide +kernel)) ggX5_isRange_X5_in
set_option maxRecDepth 20000 in
theorem ggX5_isRange_X5_isNumber : GoodIn wsX5_isRange wsX5_isNumber := goodIn_r _ [15, 10, 11, 7, 12] (by decide +kernel) (by decide +kernel)
set_option maxRecDepth 20000 in
theorem gX5_isRange_X5_isNumber : GoodIn wsX5_isRange (va_wsS RX5 85 yX5_isNumber wsX5_isNumber) := goodIn_app (goodIn_of _ (by decide +kernel)) ggX5_isRange_X5_isNumber
theorem dX5_isRange_0 : decode cX5_isRange 0 = .ok (.aload_n 0, 1) := by decide +kernel
theorem dX5_isRange_1 : decode cX5_isRange 1 = .ok (.getfield 143, 3) := by decide +kernel
theorem dX5_isRange_4 : decode cX5_isRange 4 = .ok (.tableswitch 79 1 4 #[32, 62, 62, 71], 32) := by decide +kernel
theorem dX5_isRange_36 : decode cX5_isRange 36 = .ok (.aload_n 0, 1) := by decide +kernel
theorem dX5_isRange_37 : decode cX5_isRange 37 = .ok (.aload_n 0, 1) := by decide +kernel
theorem dX5_isRange_38 : decode cX5_isRange 38 = .ok (.getfield 146, 3) := by decide +kernel
theorem dX5_isRange_41 : decode cX5_isRange 41 = .ok (.invokevirtual 63, 3) := by decide +kernel
theorem dX5_isRange_44 : decode cX5_isRange 44 = .ok (.ifCond .eq 20, 3) := by decide +kernel
theorem dX5_isRange_47 : decode cX5_isRange 47 = .ok (.aload_n 0, 1) := by decide +kernel
theorem dX5_isRange_48 : decode cX5_isRange 48 = .ok (.getfield 149, 3) := by decide +kernel
theorem dX5_isRange_51 : decode cX5_isRange 51 = .ok (.iconst 1, 1) := by decide +kernel
theorem dX5_isRange_52 : decode cX5_isRange 52 = .ok (.bipush 50, 2) := by decide +kernel
theorem dX5_isRange_54 : decode cX5_isRange 54 = .ok (.invokestatic 30, 3) := by decide +kernel
theorem dX5_isRange_57 : decode cX5_isRange 57 = .ok (.ifCond .eq 7, 3) := by decide +kernel
theorem dX5_isRange_60 : decode cX5_isRange 60 = .ok (.iconst 1, 1) := by decide +kernel
theorem dX5_isRange_61 : decode cX5_isRange 61 = .ok (.goto 4, 3) := by decide +kernel
theorem dX5_isRange_64 : decode cX5_isRange 64 = .ok (.iconst 0, 1) := by decide +kernel
theorem dX5_isRange_65 : decode cX5_isRange 65 = .ok (.ireturn, 1) := by decide +kernel
theorem dX5_isRange_66 : decode cX5_isRange 66 = .ok (.aload_n 0, 1) := by decide +kernel
theorem dX5_isRange_67 : decode cX5_isRange 67 = .ok (.aload_n 0, 1) := by decide +kernel
theorem dX5_isRange_68 : decode cX5_isRange 68 = .ok (.getfield 146, 3) := by decide +kernel
theorem dX5_isRange_71 : decode cX5_isRange 71 = .ok (.invokevirtual 63, 3) := by decide +kernel
theorem dX5_isRange_74 : decode cX5_isRange 74 = .ok (.ireturn, 1) := by decide +kernel
theorem dX5_isRange_75 : decode cX5_isRange 75 = .ok (.aload_n 0, 1) := by decide +kernel
theorem dX5_isRange_76 : decode cX5_isRange 76 = .ok (.getfield 146, 3) := by decide +kernel
theorem dX5_isRange_79 : decode cX5_isRange 79 = .ok (.invokestatic 85, 3) := by decide +kernel
theorem dX5_isRange_82 : decode cX5_isRange 82 = .ok (.ireturn, 1) := by decide +kernel
theorem dX5_isRange_83 : decode cX5_isRange 83 = .ok (.iconst 1, 1) := by decide +kernel
theorem dX5_isRange_84 : decode cX5_isRange 84 = .ok (.ireturn, 1) := by decide +kernel
set_option maxRecDepth 20000 in
theorem ggX5_isPossible_X5_canAsk : GoodIn wsX5_isPossible wsX5_canAsk := goodIn_r _ [9, 2, 10, 11, 12, 8, 13, 14, 15, 16, 17, 18, 19, 20, 21, 22, 23, 24, 25, 26, 27, 28, 29, 30, 31, 32, 33, 34] (by decide +kernel) (by decide +kernel)
set_option maxRecDepth 20000 in
theorem gX5_isPossible_X5_canAsk : GoodIn wsX5_isPossible (wsV RX5 67 RX5 yX5_canAsk wsX5_canAsk) := goodIn_app (goodIn_of _ (by decide +kernel)) ggX5_isPossible_X5_canAsk
set_option maxRecDepth 20000 in
theorem ggX5_isPossible_X5_holds : GoodIn wsX5_isPossible wsX5_holds := goodIn_r _ [13, 2, 14, 15, 8, 16, 24, 25, 26, 27, 28, 29, 30, 31, 32, 33, 34] (by decide +kernel) (by decide +kernel)
set_option maxRecDepth 20000 in
theorem gX5_isPossible_X5_holds : GoodIn wsX5_isPossible (wsV RX5 50 RX5 yX5_holds wsX5_holds) := goodIn_app (goodIn_of _ (by decide +kernel)) ggX5_isPossible_X5_holds
set_option maxRecDepth 20000 in
theorem ggX5_isPossible_X5_n : GoodIn wsX5_isPossible wsX5_n := goodIn_r _ [23] (by decide +kernel) (by decide +kernel)
set_option maxRecDepth 20000 in
theorem gX5_isPossible_X5_n : GoodIn wsX5_isPossible (va_wsS RX5 22 yX5_n wsX5_n) := goodIn_app (goodIn_of _ (by decide +kernel)) ggX5_isPossible_X5_n
theorem dX5_isPossible_0 : decode cX5_isPossible 0 = .ok (.aload_n 0, 1) := by decide +kernel
theorem dX5_isPossible_1 : decode cX5_isPossible 1 = .ok (.getfield 143, 3) := by decide +kernel
theorem dX5_isPossible_4 : decode cX5_isPossible 4 = .ok (.tableswitch 107 0 4 #[36, 53, 66, 66, 83], 36) := by decide +kernel
theorem dX5_isPossible_40 : decode cX5_isPossible 40 = .ok (.aload_n 0, 1) := by decide +kernel
theorem dX5_isPossible_41 : decode cX5_isPossible 41 = .ok (.getfield 7, 3) := by decide +kernel
theorem dX5_isPossible_44 : decode cX5_isPossible 44 = .ok (.iconst 3, 1) := by decide +kernel
theorem dX5_isPossible_45 : decode cX5_isPossible 45 = .ok (.iaload, 1) := by decide +kernel
theorem dX5_isPossible_46 : decode cX5_isPossible 46 = .ok (.bipush 6, 2) := by decide +kernel
theorem dX5_isPossible_48 : decode cX5_isPossible 48 = .ok (.if_icmp .ge 7, 3) := by decide +kernel
theorem dX5_isPossible_51 : decode cX5_isPossible 51 = .ok (.iconst 1, 1) := by decide +kernel
theorem dX5_isPossible_52 : decode cX5_isPossible 52 = .ok (.goto 4, 3) := by decide +kernel
theorem dX5_isPossible_55 : decode cX5_isPossible 55 = .ok (.iconst 0, 1) := by decide +kernel
theorem dX5_isPossible_56 : decode cX5_isPossible 56 = .ok (.ireturn, 1) := by decide +kernel
theorem dX5_isPossible_57 : decode cX5_isPossible 57 = .ok (.aload_n 0, 1) := by decide +kernel
theorem dX5_isPossible_58 : decode cX5_isPossible 58 = .ok (.aload_n 0, 1) := by decide +kernel
theorem dX5_isPossible_59 : decode cX5_isPossible 59 = .ok (.getfield 146, 3) := by decide +kernel
theorem dX5_isPossible_62 : decode cX5_isPossible 62 = .ok (.aload_n 0, 1) := by decide +kernel
theorem dX5_isPossible_63 : decode cX5_isPossible 63 = .ok (.getfield 149, 3) := by decide +kernel
theorem dX5_isPossible_66 : decode cX5_isPossible 66 = .ok (.invokevirtual 67, 3) := by decide +kernel
theorem dX5_isPossible_69 : decode cX5_isPossible 69 = .ok (.ireturn, 1) := by decide +kernel
theorem dX5_isPossible_70 : decode cX5_isPossible 70 = .ok (.aload_n 0, 1) := by decide +kernel
theorem dX5_isPossible_71 : decode cX5_isPossible 71 = .ok (.aload_n 0, 1) := by decide +kernel
theorem dX5_isPossible_72 : decode cX5_isPossible 72 = .ok (.getfield 146, 3) := by decide +kernel
theorem dX5_isPossible_75 : decode cX5_isPossible 75 = .ok (.invokevirtual 50, 3) := by decide +kernel
theorem dX5_isPossible_78 : decode cX5_isPossible 78 = .ok (.ifCond .le 7, 3) := by decide +kernel
theorem dX5_isPossible_81 : decode cX5_isPossible 81 = .ok (.iconst 1, 1) := by decide +kernel
theorem dX5_isPossible_82 : decode cX5_isPossible 82 = .ok (.goto 4, 3) := by decide +kernel
theorem dX5_isPossible_85 : decode cX5_isPossible 85 = .ok (.iconst 0, 1) := by decide +kernel
theorem dX5_isPossible_86 : decode cX5_isPossible 86 = .ok (.ireturn, 1) := by decide +kernel
theorem dX5_isPossible_87 : decode cX5_isPossible 87 = .ok (.aload_n 0, 1) := by decide +kernel
theorem dX5_isPossible_88 : decode cX5_isPossible 88 = .ok (.getfield 7, 3) := by decide +kernel
theorem dX5_isPossible_91 : decode cX5_isPossible 91 = .ok (.aload_n 0, 1) := by decide +kernel
theorem dX5_isPossible_92 : decode cX5_isPossible 92 = .ok (.getfield 146, 3) := by decide +kernel
theorem dX5_isPossible_95 : decode cX5_isPossible 95 = .ok (.invokestatic 22, 3) := by decide +kernel
theorem dX5_isPossible_98 : decode cX5_isPossible 98 = .ok (.iconst 0, 1) := by decide +kernel
theorem dX5_isPossible_99 : decode cX5_isPossible 99 = .ok (.iadd, 1) := by decide +kernel
theorem dX5_isPossible_100 : decode cX5_isPossible 100 = .ok (.iaload, 1) := by decide +kernel
theorem dX5_isPossible_101 : decode cX5_isPossible 101 = .ok (.iconst 2, 1) := by decide +kernel
theorem dX5_isPossible_102 : decode cX5_isPossible 102 = .ok (.if_icmp .ne 7, 3) := by decide +kernel
theorem dX5_isPossible_105 : decode cX5_isPossible 105 = .ok (.iconst 1, 1) := by decide +kernel
theorem dX5_isPossible_106 : decode cX5_isPossible 106 = .ok (.goto 4, 3) := by decide +kernel
theorem dX5_isPossible_109 : decode cX5_isPossible 109 = .ok (.iconst 0, 1) := by decide +kernel
theorem dX5_isPossible_110 : decode cX5_isPossible 110 = .ok (.ireturn, 1) := by decide +kernel
theorem dX5_isPossible_111 : decode cX5_isPossible 111 = .ok (.iconst 1, 1) := by decide +kernel
theorem dX5_isPossible_112 : decode cX5_isPossible 112 = .ok (.ireturn, 1) := by decide +kernel
set_option maxRecDepth 20000 in
theorem ggX5_goCommand_X5_goClerk : GoodIn wsX5_goCommand wsX5_goClerk := goodIn_r _ [8, 9, 10, 11, 7, 12, 56, 57, 58, 59, 60, 61, 62, 63, 64, 65, 66] (by decide +kernel) (by decide +kernel)
set_option maxRecDepth 20000 in
theorem gX5_goCommand_X5_goClerk : GoodIn wsX5_goCommand (wsV RX5 40 RX5 yX5_goClerk wsX5_goClerk) := goodIn_app (goodIn_of _ (by decide +kernel)) ggX5_goCommand_X5_goClerk
set_option maxRecDepth 20000 in
theorem ggX5_goCommand_X5_goAsk : GoodIn wsX5_goCommand wsX5_goAsk := goodIn_r _ [16, 9, 17, 18, 19, 7, 20, 10, 11, 12, 21, 22, 23, 24, 25, 26, 27, 28, 29, 30, 31, 32, 33, 34, 35, 36, 37, 38, 39, 56, 57, 58, 59, 60, 61, 62, 63, 64, 65, 66] (by decide +kernel) (by decide +kernel)
set_option maxRecDepth 20000 in
theorem gX5_goCommand_X5_goAsk : GoodIn wsX5_goCommand (wsV RX5 71 RX5 yX5_goAsk wsX5_goAsk) := goodIn_app (goodIn_of _ (by decide +kernel)) ggX5_goCommand_X5_goAsk
set_option maxRecDepth 20000 in
theorem ggX5_goCommand_X5_goForget : GoodIn wsX5_goCommand wsX5_goForget := goodIn_r _ [43, 9, 10, 11, 7, 12, 21, 22, 23, 24, 44, 45, 46, 47, 37, 38, 39, 56, 57, 58, 59, 60, 61, 62, 63, 64, 65, 66] (by decide +kernel) (by decide +kernel)
set_option maxRecDepth 20000 in
theorem gX5_goCommand_X5_goForget : GoodIn wsX5_goCommand (wsV RX5 79 RX5 yX5_goForget wsX5_goForget) := goodIn_app (goodIn_of _ (by decide +kernel)) ggX5_goCommand_X5_goForget
set_option maxRecDepth 20000 in
theorem ggX5_goCommand_X5_goBack : GoodIn wsX5_goCommand wsX5_goBack := goodIn_r _ [51, 9, 10, 11, 7, 12, 21, 22, 23, 24, 37, 38, 39, 44, 45, 46, 47, 56, 57, 58, 59, 60, 61, 62, 63, 64, 65, 66] (by decide +kernel) (by decide +kernel)
set_option maxRecDepth 20000 in
theorem gX5_goCommand_X5_goBack : GoodIn wsX5_goCommand (wsV RX5 82 RX5 yX5_goBack wsX5_goBack) := goodIn_app (goodIn_of _ (by decide +kernel)) ggX5_goCommand_X5_goBack
set_option maxRecDepth 20000 in
theorem ggX5_goCommand_X5_makeHole : GoodIn wsX5_goCommand wsX5_makeHole := goodIn_r _ [47, 9, 37, 38, 7, 39, 56, 57, 58, 59, 60, 61, 62, 63, 64, 65, 66] (by decide +kernel) (by decide +kernel)
set_option maxRecDepth 20000 in
theorem gX5_goCommand_X5_makeHole : GoodIn wsX5_goCommand (wsV RX5 75 RX5 yX5_makeHole wsX5_makeHole) := goodIn_app (goodIn_of _ (by decide +kernel)) ggX5_goCommand_X5_makeHole
set_option maxRecDepth 20000 in
theorem ggX5_goCommand_X5_goClose : GoodIn wsX5_goCommand wsX5_goClose := goodIn_r _ [55, 9, 37, 38, 7, 39, 44, 45, 46, 47, 10, 11, 12, 56, 57, 58, 59, 60, 61, 62, 63, 64, 65, 66] (by decide +kernel) (by decide +kernel)
set_option maxRecDepth 20000 in
theorem gX5_goCommand_X5_goClose : GoodIn wsX5_goCommand (wsV RX5 88 RX5 yX5_goClose wsX5_goClose) := goodIn_app (goodIn_of _ (by decide +kernel)) ggX5_goCommand_X5_goClose
theorem dX5_goCommand_0 : decode cX5_goCommand 0 = .ok (.aload_n 0, 1) := by decide +kernel
theorem dX5_goCommand_1 : decode cX5_goCommand 1 = .ok (.getfield 143, 3) := by decide +kernel
theorem dX5_goCommand_4 : decode cX5_goCommand 4 = .ok (.tableswitch 100 0 4 #[36, 48, 64, 76, 88], 36) := by decide +kernel
theorem dX5_goCommand_40 : decode cX5_goCommand 40 = .ok (.aload_n 0, 1) := by decide +kernel
theorem dX5_goCommand_41 : decode cX5_goCommand 41 = .ok (.aload_n 0, 1) := by decide +kernel
theorem dX5_goCommand_42 : decode cX5_goCommand 42 = .ok (.getfield 146, 3) := by decide +kernel
theorem dX5_goCommand_45 : decode cX5_goCommand 45 = .ok (.invokevirtual 40, 3) := by decide +kernel
theorem dX5_goCommand_48 : decode cX5_goCommand 48 = .ok (.pop, 1) := by decide +kernel
theorem dX5_goCommand_49 : decode cX5_goCommand 49 = .ok (.goto 60, 3) := by decide +kernel
theorem dX5_goCommand_52 : decode cX5_goCommand 52 = .ok (.aload_n 0, 1) := by decide +kernel
theorem dX5_goCommand_53 : decode cX5_goCommand 53 = .ok (.aload_n 0, 1) := by decide +kernel
theorem dX5_goCommand_54 : decode cX5_goCommand 54 = .ok (.getfield 146, 3) := by decide +kernel
theorem dX5_goCommand_57 : decode cX5_goCommand 57 = .ok (.aload_n 0, 1) := by decide +kernel
theorem dX5_goCommand_58 : decode cX5_goCommand 58 = .ok (.getfield 149, 3) := by decide +kernel
theorem dX5_goCommand_61 : decode cX5_goCommand 61 = .ok (.invokevirtual 71, 3) := by decide +kernel
theorem dX5_goCommand_64 : decode cX5_goCommand 64 = .ok (.pop, 1) := by decide +kernel
theorem dX5_goCommand_65 : decode cX5_goCommand 65 = .ok (.goto 44, 3) := by decide +kernel
theorem dX5_goCommand_68 : decode cX5_goCommand 68 = .ok (.aload_n 0, 1) := by decide +kernel
theorem dX5_goCommand_69 : decode cX5_goCommand 69 = .ok (.aload_n 0, 1) := by decide +kernel
theorem dX5_goCommand_70 : decode cX5_goCommand 70 = .ok (.getfield 146, 3) := by decide +kernel
theorem dX5_goCommand_73 : decode cX5_goCommand 73 = .ok (.invokevirtual 79, 3) := by decide +kernel
theorem dX5_goCommand_76 : decode cX5_goCommand 76 = .ok (.pop, 1) := by decide +kernel
theorem dX5_goCommand_77 : decode cX5_goCommand 77 = .ok (.goto 32, 3) := by decide +kernel
theorem dX5_goCommand_80 : decode cX5_goCommand 80 = .ok (.aload_n 0, 1) := by decide +kernel
theorem dX5_goCommand_81 : decode cX5_goCommand 81 = .ok (.aload_n 0, 1) := by decide +kernel
theorem dX5_goCommand_82 : decode cX5_goCommand 82 = .ok (.getfield 146, 3) := by decide +kernel
theorem dX5_goCommand_85 : decode cX5_goCommand 85 = .ok (.invokevirtual 82, 3) := by decide +kernel
theorem dX5_goCommand_88 : decode cX5_goCommand 88 = .ok (.pop, 1) := by decide +kernel
theorem dX5_goCommand_89 : decode cX5_goCommand 89 = .ok (.goto 20, 3) := by decide +kernel
theorem dX5_goCommand_92 : decode cX5_goCommand 92 = .ok (.aload_n 0, 1) := by decide +kernel
theorem dX5_goCommand_93 : decode cX5_goCommand 93 = .ok (.aload_n 0, 1) := by decide +kernel
theorem dX5_goCommand_94 : decode cX5_goCommand 94 = .ok (.getfield 146, 3) := by decide +kernel
theorem dX5_goCommand_97 : decode cX5_goCommand 97 = .ok (.iconst 2, 1) := by decide +kernel
theorem dX5_goCommand_98 : decode cX5_goCommand 98 = .ok (.invokevirtual 75, 3) := by decide +kernel
theorem dX5_goCommand_101 : decode cX5_goCommand 101 = .ok (.goto 8, 3) := by decide +kernel
theorem dX5_goCommand_104 : decode cX5_goCommand 104 = .ok (.aload_n 0, 1) := by decide +kernel
theorem dX5_goCommand_105 : decode cX5_goCommand 105 = .ok (.invokevirtual 88, 3) := by decide +kernel
theorem dX5_goCommand_108 : decode cX5_goCommand 108 = .ok (.pop, 1) := by decide +kernel
theorem dX5_goCommand_109 : decode cX5_goCommand 109 = .ok (.return_, 1) := by decide +kernel
set_option maxRecDepth 20000 in
theorem ggX5_run_X5_isForm : GoodIn wsX5_run wsX5_isForm := goodIn_r _ [8, 9, 10, 11, 12, 13, 14, 7, 15, 16, 17, 18, 19, 1, 20, 21, 22, 23, 3, 24, 25, 26, 27, 28, 29, 30, 31, 32, 33, 34, 35, 36, 37, 38, 117, 118, 119, 120, 121, 122, 123, 124, 125, 126, 127] (by decide +kernel) (by decide +kernel)
set_option maxRecDepth 20000 in
theorem gX5_run_X5_isForm : GoodIn wsX5_run (wsV RX5 161 RX5 yX5_isForm wsX5_isForm) := goodIn_app (goodIn_of _ (by decide +kernel)) ggX5_run_X5_isForm
set_option maxRecDepth 20000 in
theorem ggX5_run_X5_isRange : GoodIn wsX5_run wsX5_isRange := goodIn_r _ [42, 9, 10, 11, 43, 44, 45, 7, 46, 47, 36, 37, 38, 48, 49, 50, 117, 118, 119, 120, 121, 122, 123, 124, 125, 126, 127] (by decide +kernel) (by decide +kernel)
set_option maxRecDepth 20000 in
theorem gX5_run_X5_isRange : GoodIn wsX5_run (wsV RX5 165 RX5 yX5_isRange wsX5_isRange) := goodIn_app (goodIn_of _ (by decide +kernel)) ggX5_run_X5_isRange
set_option maxRecDepth 20000 in
theorem ggX5_run_X5_isPossible : GoodIn wsX5_run wsX5_isPossible := goodIn_r _ [54, 9, 47, 10, 11, 55, 56, 57, 7, 58, 59, 60, 61, 62, 63, 64, 65, 66, 67, 68, 69, 70, 71, 72, 117, 118, 119, 120, 121, 122, 123, 124, 125, 126, 127] (by decide +kernel) (by decide +kernel)
set_option maxRecDepth 20000 in
theorem gX5_run_X5_isPossible : GoodIn wsX5_run (wsV RX5 168 RX5 yX5_isPossible wsX5_isPossible) := goodIn_app (goodIn_of _ (by decide +kernel)) ggX5_run_X5_isPossible
set_option maxRecDepth 20000 in
theorem ggX5_run_X5_goCommand : GoodIn wsX5_run wsX5_goCommand := goodIn_r _ [76, 9, 10, 11, 77, 78, 79, 7, 80, 47, 63, 64, 65, 81, 82, 83, 84, 85, 86, 87, 88, 59, 60, 61, 62, 89, 90, 91, 92, 93, 94, 95, 96, 97, 98, 99, 100, 70, 71, 72, 101, 102, 103, 104, 105, 106, 107, 108, 109, 110, 111, 112, 113, 114, 115, 116, 117, 118, 119, 120, 121, 122, 123, 124, 125, 126, 127] (by decide +kernel) (by decide +kernel)
set_option maxRecDepth 20000 in
theorem gX5_run_X5_goCommand : GoodIn wsX5_run (wsV RX5 171 RX5 yX5_goCommand wsX5_goCommand) := goodIn_app (goodIn_of _ (by decide +kernel)) ggX5_run_X5_goCommand
theorem dX5_run_0 : decode cX5_run 0 = .ok (.aload_n 0, 1) := by decide +kernel
theorem dX5_run_1 : decode cX5_run 1 = .ok (.iconst 0, 1) := by decide +kernel
theorem dX5_run_2 : decode cX5_run 2 = .ok (.putfield 127, 3) := by decide +kernel
theorem dX5_run_5 : decode cX5_run 5 = .ok (.aload_n 0, 1) := by decide +kernel
theorem dX5_run_6 : decode cX5_run 6 = .ok (.iconst 0, 1) := by decide +kernel
theorem dX5_run_7 : decode cX5_run 7 = .ok (.putfield 158, 3) := by decide +kernel
theorem dX5_run_10 : decode cX5_run 10 = .ok (.aload_n 0, 1) := by decide +kernel
theorem dX5_run_11 : decode cX5_run 11 = .ok (.getfield 127, 3) := by decide +kernel
theorem dX5_run_14 : decode cX5_run 14 = .ok (.aload_n 0, 1) := by decide +kernel
theorem dX5_run_15 : decode cX5_run 15 = .ok (.getfield 115, 3) := by decide +kernel
theorem dX5_run_18 : decode cX5_run 18 = .ok (.if_icmp .ge 64, 3) := by decide +kernel
theorem dX5_run_21 : decode cX5_run 21 = .ok (.aload_n 0, 1) := by decide +kernel
theorem dX5_run_22 : decode cX5_run 22 = .ok (.getfield 127, 3) := by decide +kernel
theorem dX5_run_25 : decode cX5_run 25 = .ok (.istore_n 1, 1) := by decide +kernel
theorem dX5_run_26 : decode cX5_run 26 = .ok (.aload_n 0, 1) := by decide +kernel
theorem dX5_run_27 : decode cX5_run 27 = .ok (.invokevirtual 161, 3) := by decide +kernel
theorem dX5_run_30 : decode cX5_run 30 = .ok (.ifCond .ne 9, 3) := by decide +kernel
theorem dX5_run_33 : decode cX5_run 33 = .ok (.iconst 4, 1) := by decide +kernel
theorem dX5_run_34 : decode cX5_run 34 = .ok (.iload_n 1, 1) := by decide +kernel
theorem dX5_run_35 : decode cX5_run 35 = .ok (.imul, 1) := by decide +kernel
theorem dX5_run_36 : decode cX5_run 36 = .ok (.iconst 1, 1) := by decide +kernel
theorem dX5_run_37 : decode cX5_run 37 = .ok (.iadd, 1) := by decide +kernel
theorem dX5_run_38 : decode cX5_run 38 = .ok (.ireturn, 1) := by decide +kernel
theorem dX5_run_39 : decode cX5_run 39 = .ok (.aload_n 0, 1) := by decide +kernel
theorem dX5_run_40 : decode cX5_run 40 = .ok (.invokevirtual 165, 3) := by decide +kernel
theorem dX5_run_43 : decode cX5_run 43 = .ok (.ifCond .ne 9, 3) := by decide +kernel
theorem dX5_run_46 : decode cX5_run 46 = .ok (.iconst 4, 1) := by decide +kernel
theorem dX5_run_47 : decode cX5_run 47 = .ok (.iload_n 1, 1) := by decide +kernel
theorem dX5_run_48 : decode cX5_run 48 = .ok (.imul, 1) := by decide +kernel
theorem dX5_run_49 : decode cX5_run 49 = .ok (.iconst 2, 1) := by decide +kernel
theorem dX5_run_50 : decode cX5_run 50 = .ok (.iadd, 1) := by decide +kernel
theorem dX5_run_51 : decode cX5_run 51 = .ok (.ireturn, 1) := by decide +kernel
theorem dX5_run_52 : decode cX5_run 52 = .ok (.aload_n 0, 1) := by decide +kernel
theorem dX5_run_53 : decode cX5_run 53 = .ok (.invokevirtual 168, 3) := by decide +kernel
theorem dX5_run_56 : decode cX5_run 56 = .ok (.ifCond .ne 9, 3) := by decide +kernel
theorem dX5_run_59 : decode cX5_run 59 = .ok (.iconst 4, 1) := by decide +kernel
theorem dX5_run_60 : decode cX5_run 60 = .ok (.iload_n 1, 1) := by decide +kernel
theorem dX5_run_61 : decode cX5_run 61 = .ok (.imul, 1) := by decide +kernel
theorem dX5_run_62 : decode cX5_run 62 = .ok (.iconst 3, 1) := by decide +kernel
theorem dX5_run_63 : decode cX5_run 63 = .ok (.iadd, 1) := by decide +kernel
theorem dX5_run_64 : decode cX5_run 64 = .ok (.ireturn, 1) := by decide +kernel
theorem dX5_run_65 : decode cX5_run 65 = .ok (.aload_n 0, 1) := by decide +kernel
theorem dX5_run_66 : decode cX5_run 66 = .ok (.invokevirtual 171, 3) := by decide +kernel
theorem dX5_run_69 : decode cX5_run 69 = .ok (.aload_n 0, 1) := by decide +kernel
theorem dX5_run_70 : decode cX5_run 70 = .ok (.dup, 1) := by decide +kernel
theorem dX5_run_71 : decode cX5_run 71 = .ok (.getfield 158, 3) := by decide +kernel
theorem dX5_run_74 : decode cX5_run 74 = .ok (.iconst 1, 1) := by decide +kernel
theorem dX5_run_75 : decode cX5_run 75 = .ok (.iadd, 1) := by decide +kernel
theorem dX5_run_76 : decode cX5_run 76 = .ok (.putfield 158, 3) := by decide +kernel
theorem dX5_run_79 : decode cX5_run 79 = .ok (.goto (-69), 3) := by decide +kernel
theorem dX5_run_82 : decode cX5_run 82 = .ok (.iconst (-1), 1) := by decide +kernel
theorem dX5_run_83 : decode cX5_run 83 = .ok (.ireturn, 1) := by decide +kernel
set_option maxRecDepth 20000 in
theorem ggX5_fault_X5_in : GoodIn wsX5_fault wsX5_in := goodIn_r _ [4] (by decide +kernel) (by decide +kernel)
set_option maxRecDepth 20000 in
theorem gX5_fault_X5_in : GoodIn wsX5_fault (va_wsS RX5 30 yX5_in wsX5_in) := goodIn_app (goodIn_of _ (by decide +kernel)) ggX5_fault_X5_in
set_option maxRecDepth 20000 in
theorem ggX5_fault_X5_layAside : GoodIn wsX5_fault wsX5_layAside := goodIn_r _ [8, 9, 10, 130, 131, 132, 133, 134, 135, 136, 137, 138, 139, 140] (by decide +kernel) (by decide +kernel)
set_option maxRecDepth 20000 in
theorem gX5_fault_X5_layAside : GoodIn wsX5_fault (wsV RX5 118 RX5 yX5_layAside wsX5_layAside) := goodIn_app (goodIn_of _ (by decide +kernel)) ggX5_fault_X5_layAside
set_option maxRecDepth 20000 in
theorem ggX5_fault_X5_run : GoodIn wsX5_fault wsX5_run := goodIn_r _ [14, 15, 16, 17, 18, 19, 20, 3, 21, 22, 23, 24, 25, 26, 27, 28, 29, 30, 31, 32, 33, 34, 35, 36, 37, 38, 39, 40, 41, 42, 43, 44, 45, 46, 47, 48, 1, 2, 4, 49, 50, 51, 52, 53, 54, 55, 56, 10, 57, 58, 59, 60, 61, 62, 63, 64, 65, 66, 67, 68, 69, 70, 71, 72, 73, 74, 75, 76, 77, 78, 79, 80, 81, 82, 83, 84, 85, 86, 87, 88, 89, 90, 91, 92, 93, 94, 95, 96, 97, 98, 99, 100, 101, 102, 103, 104, 105, 106, 107, 108, 109, 110, 111, 112, 113, 114, 115, 116, 117, 118, 119, 120, 121, 122, 123, 124, 125, 130, 131, 132, 133, 134, 135, 136, 137, 138, 139, 140] (by decide +kernel) (by decide +kernel)
set_option maxRecDepth 20000 in
theorem gX5_fault_X5_run : GoodIn wsX5_fault (wsV RX5 174 RX5 yX5_run wsX5_run) := goodIn_app (goodIn_of _ (by decide +kernel)) ggX5_fault_X5_run
set_option maxRecDepth 20000 in
theorem ggX5_fault_X5_layBack : GoodIn wsX5_fault wsX5_layBack := goodIn_r _ [129, 10, 9, 130, 131, 132, 133, 134, 135, 136, 137, 138, 139, 140] (by decide +kernel) (by decide +kernel)
set_option maxRecDepth 20000 in
theorem gX5_fault_X5_layBack : GoodIn wsX5_fault (wsV RX5 121 RX5 yX5_layBack wsX5_layBack) := goodIn_app (goodIn_of _ (by decide +kernel)) ggX5_fault_X5_layBack
theorem dX5_fault_0 : decode cX5_fault 0 = .ok (.iload_n 1, 1) := by decide +kernel
theorem dX5_fault_1 : decode cX5_fault 1 = .ok (.iconst 0, 1) := by decide +kernel
theorem dX5_fault_2 : decode cX5_fault 2 = .ok (.iconst 1, 1) := by decide +kernel
theorem dX5_fault_3 : decode cX5_fault 3 = .ok (.invokestatic 30, 3) := by decide +kernel
theorem dX5_fault_6 : decode cX5_fault 6 = .ok (.ifCond .ne 5, 3) := by decide +kernel
theorem dX5_fault_9 : decode cX5_fault 9 = .ok (.iconst (-1), 1) := by decide +kernel
theorem dX5_fault_10 : decode cX5_fault 10 = .ok (.ireturn, 1) := by decide +kernel
theorem dX5_fault_11 : decode cX5_fault 11 = .ok (.aload_n 0, 1) := by decide +kernel
theorem dX5_fault_12 : decode cX5_fault 12 = .ok (.invokevirtual 118, 3) := by decide +kernel
theorem dX5_fault_15 : decode cX5_fault 15 = .ok (.aload_n 0, 1) := by decide +kernel
theorem dX5_fault_16 : decode cX5_fault 16 = .ok (.invokevirtual 174, 3) := by decide +kernel
theorem dX5_fault_19 : decode cX5_fault 19 = .ok (.istore_n 2, 1) := by decide +kernel
theorem dX5_fault_20 : decode cX5_fault 20 = .ok (.aload_n 0, 1) := by decide +kernel
theorem dX5_fault_21 : decode cX5_fault 21 = .ok (.invokevirtual 121, 3) := by decide +kernel
theorem dX5_fault_24 : decode cX5_fault 24 = .ok (.iload_n 2, 1) := by decide +kernel
theorem dX5_fault_25 : decode cX5_fault 25 = .ok (.ifCond .ge 8, 3) := by decide +kernel
theorem dX5_fault_28 : decode cX5_fault 28 = .ok (.bipush (-4), 2) := by decide +kernel
theorem dX5_fault_30 : decode cX5_fault 30 = .ok (.goto 16, 3) := by decide +kernel
theorem dX5_fault_33 : decode cX5_fault 33 = .ok (.iload_n 1, 1) := by decide +kernel
theorem dX5_fault_34 : decode cX5_fault 34 = .ok (.ifCond .ne 9, 3) := by decide +kernel
theorem dX5_fault_37 : decode cX5_fault 37 = .ok (.iload_n 2, 1) := by decide +kernel
theorem dX5_fault_38 : decode cX5_fault 38 = .ok (.iconst 4, 1) := by decide +kernel
theorem dX5_fault_39 : decode cX5_fault 39 = .ok (.idiv, 1) := by decide +kernel
theorem dX5_fault_40 : decode cX5_fault 40 = .ok (.goto 6, 3) := by decide +kernel
theorem dX5_fault_43 : decode cX5_fault 43 = .ok (.iload_n 2, 1) := by decide +kernel
theorem dX5_fault_44 : decode cX5_fault 44 = .ok (.iconst 4, 1) := by decide +kernel
theorem dX5_fault_45 : decode cX5_fault 45 = .ok (.irem, 1) := by decide +kernel
theorem dX5_fault_46 : decode cX5_fault 46 = .ok (.ireturn, 1) := by decide +kernel
set_option maxRecDepth 20000 in
theorem ggX5_play_X5_layAside : GoodIn wsX5_play wsX5_layAside := goodIn_r _ [6, 7, 8, 136, 137, 138, 139, 140, 141, 142, 143, 144, 145, 146] (by decide +kernel) (by decide +kernel)
set_option maxRecDepth 20000 in
theorem gX5_play_X5_layAside : GoodIn wsX5_play (wsV RX5 118 RX5 yX5_layAside wsX5_layAside) := goodIn_app (goodIn_of _ (by decide +kernel)) ggX5_play_X5_layAside
set_option maxRecDepth 20000 in
theorem ggX5_play_X5_run : GoodIn wsX5_play wsX5_run := goodIn_r _ [12, 13, 1, 14, 15, 16, 17, 5, 18, 19, 20, 21, 22, 23, 24, 25, 26, 27, 28, 29, 30, 31, 32, 33, 34, 35, 36, 37, 38, 39, 40, 41, 42, 43, 44, 45, 46, 47, 48, 49, 50, 51, 52, 53, 54, 55, 56, 8, 57, 58, 59, 60, 61, 62, 63, 64, 65, 66, 67, 68, 69, 70, 71, 72, 73, 74, 75, 76, 77, 78, 79, 80, 81, 82, 83, 84, 85, 86, 87, 88, 89, 90, 91, 92, 93, 94, 95, 96, 97, 98, 99, 100, 101, 102, 103, 104, 105, 106, 107, 108, 109, 110, 111, 112, 113, 114, 115, 116, 117, 118, 119, 120, 121, 122, 123, 124, 125, 136, 137, 138, 139, 140, 141, 142, 143, 144, 145, 146] (by decide +kernel) (by decide +kernel)
set_option maxRecDepth 20000 in
theorem gX5_play_X5_run : GoodIn wsX5_play (wsV RX5 174 RX5 yX5_run wsX5_run) := goodIn_app (goodIn_of _ (by decide +kernel)) ggX5_play_X5_run
set_option maxRecDepth 20000 in
theorem ggX5_play_X5_layBack : GoodIn wsX5_play wsX5_layBack := goodIn_r _ [129, 8, 7, 136, 137, 138, 139, 140, 141, 142, 143, 144, 145, 146] (by decide +kernel) (by decide +kernel)
set_option maxRecDepth 20000 in
theorem gX5_play_X5_layBack : GoodIn wsX5_play (wsV RX5 121 RX5 yX5_layBack wsX5_layBack) := goodIn_app (goodIn_of _ (by decide +kernel)) ggX5_play_X5_layBack
set_option maxRecDepth 20000 in
theorem ggX5_play_X5_record : GoodIn wsX5_play wsX5_record := goodIn_r _ [133, 134, 135, 8, 136, 137, 138, 139, 140, 141, 142, 143, 144, 145, 146] (by decide +kernel) (by decide +kernel)
set_option maxRecDepth 20000 in
theorem gX5_play_X5_record : GoodIn wsX5_play (wsV RX5 37 RX5 yX5_record wsX5_record) := goodIn_app (goodIn_of _ (by decide +kernel)) ggX5_play_X5_record
theorem dX5_play_0 : decode cX5_play 0 = .ok (.aload_n 0, 1) := by decide +kernel
theorem dX5_play_1 : decode cX5_play 1 = .ok (.invokevirtual 118, 3) := by decide +kernel
theorem dX5_play_4 : decode cX5_play 4 = .ok (.aload_n 0, 1) := by decide +kernel
theorem dX5_play_5 : decode cX5_play 5 = .ok (.invokevirtual 174, 3) := by decide +kernel
theorem dX5_play_8 : decode cX5_play 8 = .ok (.istore_n 1, 1) := by decide +kernel
theorem dX5_play_9 : decode cX5_play 9 = .ok (.aload_n 0, 1) := by decide +kernel
theorem dX5_play_10 : decode cX5_play 10 = .ok (.invokevirtual 121, 3) := by decide +kernel
theorem dX5_play_13 : decode cX5_play 13 = .ok (.iload_n 1, 1) := by decide +kernel
theorem dX5_play_14 : decode cX5_play 14 = .ok (.ifCond .lt 6, 3) := by decide +kernel
theorem dX5_play_17 : decode cX5_play 17 = .ok (.bipush (-2), 2) := by decide +kernel
theorem dX5_play_19 : decode cX5_play 19 = .ok (.ireturn, 1) := by decide +kernel
theorem dX5_play_20 : decode cX5_play 20 = .ok (.aload_n 0, 1) := by decide +kernel
theorem dX5_play_21 : decode cX5_play 21 = .ok (.invokevirtual 37, 3) := by decide +kernel
theorem dX5_play_24 : decode cX5_play 24 = .ok (.aload_n 0, 1) := by decide +kernel
theorem dX5_play_25 : decode cX5_play 25 = .ok (.invokevirtual 174, 3) := by decide +kernel
theorem dX5_play_28 : decode cX5_play 28 = .ok (.pop, 1) := by decide +kernel
theorem dX5_play_29 : decode cX5_play 29 = .ok (.aload_n 0, 1) := by decide +kernel
theorem dX5_play_30 : decode cX5_play 30 = .ok (.getfield 158, 3) := by decide +kernel
theorem dX5_play_33 : decode cX5_play 33 = .ok (.ireturn, 1) := by decide +kernel
end
