section
-- ===== PART A: goes FIRST, ahead of the names: the tables' words, and 'selects' of the private methods out of them =====
/-- a private method of a class that the tables say can be made, by its rows of tables_1 -/
def lw_okq (q : MethodName × Nat) : Prop := (q.1.cls ≠ "java/lang/invoke/MethodHandle" ∧ q.1.cls ≠ "java/lang/invoke/VarHandle") ∧ Cond.instantiable q.1.cls q.2 ∈ tables_1 ∧ Cond.privateMethod q.1 ∈ tables_1 ∧ Cond.instanceMethod q.1 ∈ tables_1
theorem lw_p0 : lw_okq (⟨"SongOffice", "isDayAhead", "(I)Z"⟩, 7) := ⟨⟨by decide +kernel, by decide +kernel⟩, List.mem_of_getElem? (i := 15) (by decide +kernel), List.mem_of_getElem? (i := 299) (by decide +kernel), List.mem_of_getElem? (i := 300) (by decide +kernel)⟩
theorem lw_p1 : lw_okq (⟨"SongOffice", "reportFits", "(IIIIZ)Z"⟩, 7) := ⟨⟨by decide +kernel, by decide +kernel⟩, List.mem_of_getElem? (i := 15) (by decide +kernel), List.mem_of_getElem? (i := 350) (by decide +kernel), List.mem_of_getElem? (i := 351) (by decide +kernel)⟩
theorem lw_p2 : lw_okq (⟨"SongOffice$Ledger", "takeSentOf", "(I)V"⟩, 16) := ⟨⟨by decide +kernel, by decide +kernel⟩, List.mem_of_getElem? (i := 165) (by decide +kernel), List.mem_of_getElem? (i := 386) (by decide +kernel), List.mem_of_getElem? (i := 387) (by decide +kernel)⟩
theorem lw_p3 : lw_okq (⟨"SongOffice$Ledger", "takeSent", "(IJ)V"⟩, 16) := ⟨⟨by decide +kernel, by decide +kernel⟩, List.mem_of_getElem? (i := 165) (by decide +kernel), List.mem_of_getElem? (i := 391) (by decide +kernel), List.mem_of_getElem? (i := 392) (by decide +kernel)⟩
theorem lw_p4 : lw_okq (⟨"SongOffice$Ledger", "closeTerm", "()V"⟩, 16) := ⟨⟨by decide +kernel, by decide +kernel⟩, List.mem_of_getElem? (i := 165) (by decide +kernel), List.mem_of_getElem? (i := 402) (by decide +kernel), List.mem_of_getElem? (i := 403) (by decide +kernel)⟩
theorem lw_p5 : lw_okq (⟨"SongOffice$Ledger", "bringIn", "(I)V"⟩, 16) := ⟨⟨by decide +kernel, by decide +kernel⟩, List.mem_of_getElem? (i := 165) (by decide +kernel), List.mem_of_getElem? (i := 418) (by decide +kernel), List.mem_of_getElem? (i := 419) (by decide +kernel)⟩
theorem lw_p6 : lw_okq (⟨"SongOffice$Ledger", "lastDay", "()I"⟩, 16) := ⟨⟨by decide +kernel, by decide +kernel⟩, List.mem_of_getElem? (i := 165) (by decide +kernel), List.mem_of_getElem? (i := 430) (by decide +kernel), List.mem_of_getElem? (i := 431) (by decide +kernel)⟩
theorem lw_p7 : lw_okq (⟨"SongOffice$Ledger", "runLine", "(IIIIJ)V"⟩, 16) := ⟨⟨by decide +kernel, by decide +kernel⟩, List.mem_of_getElem? (i := 165) (by decide +kernel), List.mem_of_getElem? (i := 439) (by decide +kernel), List.mem_of_getElem? (i := 440) (by decide +kernel)⟩
theorem lw_p8 : lw_okq (⟨"SongOffice$Ledger", "takenBy", "(IJ)J"⟩, 16) := ⟨⟨by decide +kernel, by decide +kernel⟩, List.mem_of_getElem? (i := 165) (by decide +kernel), List.mem_of_getElem? (i := 452) (by decide +kernel), List.mem_of_getElem? (i := 453) (by decide +kernel)⟩
theorem lw_p9 : lw_okq (⟨"SongOffice$Ledger", "emptyOldBags", "()V"⟩, 16) := ⟨⟨by decide +kernel, by decide +kernel⟩, List.mem_of_getElem? (i := 165) (by decide +kernel), List.mem_of_getElem? (i := 463) (by decide +kernel), List.mem_of_getElem? (i := 464) (by decide +kernel)⟩
theorem lw_p10 : lw_okq (⟨"SongOffice$Ledger", "payHands", "()V"⟩, 16) := ⟨⟨by decide +kernel, by decide +kernel⟩, List.mem_of_getElem? (i := 165) (by decide +kernel), List.mem_of_getElem? (i := 467) (by decide +kernel), List.mem_of_getElem? (i := 468) (by decide +kernel)⟩
theorem lw_p11 : lw_okq (⟨"SongOffice$Ledger", "fillFloors", "()V"⟩, 16) := ⟨⟨by decide +kernel, by decide +kernel⟩, List.mem_of_getElem? (i := 165) (by decide +kernel), List.mem_of_getElem? (i := 471) (by decide +kernel), List.mem_of_getElem? (i := 472) (by decide +kernel)⟩
theorem lw_p12 : lw_okq (⟨"SongOffice$Ledger", "duesOf", "(III)J"⟩, 16) := ⟨⟨by decide +kernel, by decide +kernel⟩, List.mem_of_getElem? (i := 165) (by decide +kernel), List.mem_of_getElem? (i := 475) (by decide +kernel), List.mem_of_getElem? (i := 476) (by decide +kernel)⟩
theorem lw_p13 : lw_okq (⟨"SongOffice", "isClosed", "(I)Z"⟩, 7) := ⟨⟨by decide +kernel, by decide +kernel⟩, List.mem_of_getElem? (i := 15) (by decide +kernel), List.mem_of_getElem? (i := 487) (by decide +kernel), List.mem_of_getElem? (i := 488) (by decide +kernel)⟩
theorem lw_p14 : lw_okq (⟨"SongOffice", "owedTo", "(I)J"⟩, 7) := ⟨⟨by decide +kernel, by decide +kernel⟩, List.mem_of_getElem? (i := 15) (by decide +kernel), List.mem_of_getElem? (i := 499) (by decide +kernel), List.mem_of_getElem? (i := 500) (by decide +kernel)⟩
theorem lw_p15 : lw_okq (⟨"SongOffice", "isTheTerm", "(I)Z"⟩, 7) := ⟨⟨by decide +kernel, by decide +kernel⟩, List.mem_of_getElem? (i := 15) (by decide +kernel), List.mem_of_getElem? (i := 520) (by decide +kernel), List.mem_of_getElem? (i := 521) (by decide +kernel)⟩
def lw_privs_1 : List (MethodName × Nat) := [(⟨"SongOffice", "isDayAhead", "(I)Z"⟩, 7), (⟨"SongOffice", "reportFits", "(IIIIZ)Z"⟩, 7), (⟨"SongOffice$Ledger", "takeSentOf", "(I)V"⟩, 16), (⟨"SongOffice$Ledger", "takeSent", "(IJ)V"⟩, 16), (⟨"SongOffice$Ledger", "closeTerm", "()V"⟩, 16), (⟨"SongOffice$Ledger", "bringIn", "(I)V"⟩, 16), (⟨"SongOffice$Ledger", "lastDay", "()I"⟩, 16), (⟨"SongOffice$Ledger", "runLine", "(IIIIJ)V"⟩, 16), (⟨"SongOffice$Ledger", "takenBy", "(IJ)J"⟩, 16), (⟨"SongOffice$Ledger", "emptyOldBags", "()V"⟩, 16), (⟨"SongOffice$Ledger", "payHands", "()V"⟩, 16), (⟨"SongOffice$Ledger", "fillFloors", "()V"⟩, 16), (⟨"SongOffice$Ledger", "duesOf", "(III)J"⟩, 16), (⟨"SongOffice", "isClosed", "(I)Z"⟩, 7), (⟨"SongOffice", "owedTo", "(I)J"⟩, 7), (⟨"SongOffice", "isTheTerm", "(I)Z"⟩, 7)]
theorem lw_r1 : ∀ q ∈ lw_privs_1, lw_okq q := List.forall_mem_cons.mpr ⟨lw_p0, List.forall_mem_cons.mpr ⟨lw_p1, List.forall_mem_cons.mpr ⟨lw_p2, List.forall_mem_cons.mpr ⟨lw_p3, List.forall_mem_cons.mpr ⟨lw_p4, List.forall_mem_cons.mpr ⟨lw_p5, List.forall_mem_cons.mpr ⟨lw_p6, List.forall_mem_cons.mpr ⟨lw_p7, List.forall_mem_cons.mpr ⟨lw_p8, List.forall_mem_cons.mpr ⟨lw_p9, List.forall_mem_cons.mpr ⟨lw_p10, List.forall_mem_cons.mpr ⟨lw_p11, List.forall_mem_cons.mpr ⟨lw_p12, List.forall_mem_cons.mpr ⟨lw_p13, List.forall_mem_cons.mpr ⟨lw_p14, List.forall_mem_cons.mpr ⟨lw_p15, fun _ h => absurd h List.not_mem_nil⟩⟩⟩⟩⟩⟩⟩⟩⟩⟩⟩⟩⟩⟩⟩⟩
theorem lw_p16 : lw_okq (⟨"SongOfficeModel", "isDay", "(I)Z"⟩, 47) := ⟨⟨by decide +kernel, by decide +kernel⟩, List.mem_of_getElem? (i := 593) (by decide +kernel), List.mem_of_getElem? (i := 755) (by decide +kernel), List.mem_of_getElem? (i := 756) (by decide +kernel)⟩
theorem lw_p17 : lw_okq (⟨"SongOfficeModel", "isReport", "(IIIIZ)Z"⟩, 47) := ⟨⟨by decide +kernel, by decide +kernel⟩, List.mem_of_getElem? (i := 593) (by decide +kernel), List.mem_of_getElem? (i := 777) (by decide +kernel), List.mem_of_getElem? (i := 778) (by decide +kernel)⟩
theorem lw_p18 : lw_okq (⟨"SongOfficeModel", "puts", "(IIIIIZ)V"⟩, 47) := ⟨⟨by decide +kernel, by decide +kernel⟩, List.mem_of_getElem? (i := 593) (by decide +kernel), List.mem_of_getElem? (i := 784) (by decide +kernel), List.mem_of_getElem? (i := 785) (by decide +kernel)⟩
theorem lw_p19 : lw_okq (⟨"SongOfficeModel", "isOpen", "(II)Z"⟩, 47) := ⟨⟨by decide +kernel, by decide +kernel⟩, List.mem_of_getElem? (i := 593) (by decide +kernel), List.mem_of_getElem? (i := 800) (by decide +kernel), List.mem_of_getElem? (i := 801) (by decide +kernel)⟩
theorem lw_p20 : lw_okq (⟨"SongOfficeModel", "closes", "(II)V"⟩, 47) := ⟨⟨by decide +kernel, by decide +kernel⟩, List.mem_of_getElem? (i := 593) (by decide +kernel), List.mem_of_getElem? (i := 808) (by decide +kernel), List.mem_of_getElem? (i := 809) (by decide +kernel)⟩
theorem lw_p21 : lw_okq (⟨"SongOfficeModel", "comes", "(IIIII)V"⟩, 47) := ⟨⟨by decide +kernel, by decide +kernel⟩, List.mem_of_getElem? (i := 593) (by decide +kernel), List.mem_of_getElem? (i := 812) (by decide +kernel), List.mem_of_getElem? (i := 813) (by decide +kernel)⟩
theorem lw_p22 : lw_okq (⟨"SongOfficeModel", "setOn", "(II)I"⟩, 47) := ⟨⟨by decide +kernel, by decide +kernel⟩, List.mem_of_getElem? (i := 593) (by decide +kernel), List.mem_of_getElem? (i := 816) (by decide +kernel), List.mem_of_getElem? (i := 817) (by decide +kernel)⟩
theorem lw_p23 : lw_okq (⟨"SongOfficeModel", "goes", "(IIIIJ)V"⟩, 47) := ⟨⟨by decide +kernel, by decide +kernel⟩, List.mem_of_getElem? (i := 593) (by decide +kernel), List.mem_of_getElem? (i := 821) (by decide +kernel), List.mem_of_getElem? (i := 822) (by decide +kernel)⟩
theorem lw_p24 : lw_okq (⟨"SongOfficeModel", "begins", "(IIIIJ)V"⟩, 47) := ⟨⟨by decide +kernel, by decide +kernel⟩, List.mem_of_getElem? (i := 593) (by decide +kernel), List.mem_of_getElem? (i := 825) (by decide +kernel), List.mem_of_getElem? (i := 826) (by decide +kernel)⟩
theorem lw_p25 : lw_okq (⟨"SongOfficeModel", "meets", "(IIIII)V"⟩, 47) := ⟨⟨by decide +kernel, by decide +kernel⟩, List.mem_of_getElem? (i := 593) (by decide +kernel), List.mem_of_getElem? (i := 829) (by decide +kernel), List.mem_of_getElem? (i := 830) (by decide +kernel)⟩
theorem lw_p26 : lw_okq (⟨"SongOfficeModel", "pays", "(III)V"⟩, 47) := ⟨⟨by decide +kernel, by decide +kernel⟩, List.mem_of_getElem? (i := 593) (by decide +kernel), List.mem_of_getElem? (i := 837) (by decide +kernel), List.mem_of_getElem? (i := 838) (by decide +kernel)⟩
theorem lw_p27 : lw_okq (⟨"SongOfficeModel", "fills", "(III)V"⟩, 47) := ⟨⟨by decide +kernel, by decide +kernel⟩, List.mem_of_getElem? (i := 593) (by decide +kernel), List.mem_of_getElem? (i := 844) (by decide +kernel), List.mem_of_getElem? (i := 845) (by decide +kernel)⟩
theorem lw_p28 : lw_okq (⟨"SongOfficeModel", "takes", "(III)J"⟩, 47) := ⟨⟨by decide +kernel, by decide +kernel⟩, List.mem_of_getElem? (i := 593) (by decide +kernel), List.mem_of_getElem? (i := 853) (by decide +kernel), List.mem_of_getElem? (i := 854) (by decide +kernel)⟩
theorem lw_p29 : lw_okq (⟨"SongOfficeModel", "anew", "()V"⟩, 47) := ⟨⟨by decide +kernel, by decide +kernel⟩, List.mem_of_getElem? (i := 593) (by decide +kernel), List.mem_of_getElem? (i := 861) (by decide +kernel), List.mem_of_getElem? (i := 862) (by decide +kernel)⟩
theorem lw_p30 : lw_okq (⟨"SongOfficeModel", "empties", "()V"⟩, 47) := ⟨⟨by decide +kernel, by decide +kernel⟩, List.mem_of_getElem? (i := 593) (by decide +kernel), List.mem_of_getElem? (i := 865) (by decide +kernel), List.mem_of_getElem? (i := 866) (by decide +kernel)⟩
theorem lw_p31 : lw_okq (⟨"SongOfficeModel", "sentIn", "(I)V"⟩, 47) := ⟨⟨by decide +kernel, by decide +kernel⟩, List.mem_of_getElem? (i := 593) (by decide +kernel), List.mem_of_getElem? (i := 869) (by decide +kernel), List.mem_of_getElem? (i := 870) (by decide +kernel)⟩
def lw_privs_2 : List (MethodName × Nat) := [(⟨"SongOfficeModel", "isDay", "(I)Z"⟩, 47), (⟨"SongOfficeModel", "isReport", "(IIIIZ)Z"⟩, 47), (⟨"SongOfficeModel", "puts", "(IIIIIZ)V"⟩, 47), (⟨"SongOfficeModel", "isOpen", "(II)Z"⟩, 47), (⟨"SongOfficeModel", "closes", "(II)V"⟩, 47), (⟨"SongOfficeModel", "comes", "(IIIII)V"⟩, 47), (⟨"SongOfficeModel", "setOn", "(II)I"⟩, 47), (⟨"SongOfficeModel", "goes", "(IIIIJ)V"⟩, 47), (⟨"SongOfficeModel", "begins", "(IIIIJ)V"⟩, 47), (⟨"SongOfficeModel", "meets", "(IIIII)V"⟩, 47), (⟨"SongOfficeModel", "pays", "(III)V"⟩, 47), (⟨"SongOfficeModel", "fills", "(III)V"⟩, 47), (⟨"SongOfficeModel", "takes", "(III)J"⟩, 47), (⟨"SongOfficeModel", "anew", "()V"⟩, 47), (⟨"SongOfficeModel", "empties", "()V"⟩, 47), (⟨"SongOfficeModel", "sentIn", "(I)V"⟩, 47)]
theorem lw_r2 : ∀ q ∈ lw_privs_2, lw_okq q := List.forall_mem_cons.mpr ⟨lw_p16, List.forall_mem_cons.mpr ⟨lw_p17, List.forall_mem_cons.mpr ⟨lw_p18, List.forall_mem_cons.mpr ⟨lw_p19, List.forall_mem_cons.mpr ⟨lw_p20, List.forall_mem_cons.mpr ⟨lw_p21, List.forall_mem_cons.mpr ⟨lw_p22, List.forall_mem_cons.mpr ⟨lw_p23, List.forall_mem_cons.mpr ⟨lw_p24, List.forall_mem_cons.mpr ⟨lw_p25, List.forall_mem_cons.mpr ⟨lw_p26, List.forall_mem_cons.mpr ⟨lw_p27, List.forall_mem_cons.mpr ⟨lw_p28, List.forall_mem_cons.mpr ⟨lw_p29, List.forall_mem_cons.mpr ⟨lw_p30, List.forall_mem_cons.mpr ⟨lw_p31, fun _ h => absurd h List.not_mem_nil⟩⟩⟩⟩⟩⟩⟩⟩⟩⟩⟩⟩⟩⟩⟩⟩
theorem lw_p32 : lw_okq (⟨"SongOfficeModel", "owed", "(I)J"⟩, 47) := ⟨⟨by decide +kernel, by decide +kernel⟩, List.mem_of_getElem? (i := 593) (by decide +kernel), List.mem_of_getElem? (i := 873) (by decide +kernel), List.mem_of_getElem? (i := 874) (by decide +kernel)⟩
theorem lw_p33 : lw_okq (⟨"SongOfficeModel", "worth", "(II)J"⟩, 47) := ⟨⟨by decide +kernel, by decide +kernel⟩, List.mem_of_getElem? (i := 593) (by decide +kernel), List.mem_of_getElem? (i := 877) (by decide +kernel), List.mem_of_getElem? (i := 878) (by decide +kernel)⟩
theorem lw_p34 : lw_okq (⟨"SongOfficeModel", "duesOf", "(II)J"⟩, 47) := ⟨⟨by decide +kernel, by decide +kernel⟩, List.mem_of_getElem? (i := 593) (by decide +kernel), List.mem_of_getElem? (i := 881) (by decide +kernel), List.mem_of_getElem? (i := 882) (by decide +kernel)⟩
theorem lw_p35 : lw_okq (⟨"SongOfficeModel", "inBags", "(I)J"⟩, 47) := ⟨⟨by decide +kernel, by decide +kernel⟩, List.mem_of_getElem? (i := 593) (by decide +kernel), List.mem_of_getElem? (i := 901) (by decide +kernel), List.mem_of_getElem? (i := 902) (by decide +kernel)⟩
def lw_privs_3 : List (MethodName × Nat) := [(⟨"SongOfficeModel", "owed", "(I)J"⟩, 47), (⟨"SongOfficeModel", "worth", "(II)J"⟩, 47), (⟨"SongOfficeModel", "duesOf", "(II)J"⟩, 47), (⟨"SongOfficeModel", "inBags", "(I)J"⟩, 47)]
theorem lw_r3 : ∀ q ∈ lw_privs_3, lw_okq q := List.forall_mem_cons.mpr ⟨lw_p32, List.forall_mem_cons.mpr ⟨lw_p33, List.forall_mem_cons.mpr ⟨lw_p34, List.forall_mem_cons.mpr ⟨lw_p35, fun _ h => absurd h List.not_mem_nil⟩⟩⟩⟩
def lw_privs : List (MethodName × Nat) := lw_privs_1 ++ (lw_privs_2 ++ (lw_privs_3))
def lw_tbl : List Cond := k2_sels lw_privs ++ tables_1
theorem lw_privs_ok : ∀ q ∈ lw_privs, lw_okq q := by
  show ∀ q ∈ lw_privs_1 ++ (lw_privs_2 ++ (lw_privs_3)), lw_okq q
  exact List.forall_mem_append.mpr ⟨lw_r1, List.forall_mem_append.mpr ⟨lw_r2, lw_r3⟩⟩
-- ===== end of PART A; then your names; then what follows =====
end
section
/-! ===== BEGIN words of one list among another's, by their places ===== -/
theorem goodIn_r {big : List Cond} (ws : List Cond) (ps : List Nat) (hp : ws = ps.filterMap (fun i => big[i]?)) (h : ws.all goodWord = true) : GoodIn big ws := by
  intro w hw
  have h1 := List.all_eq_true.mp h w hw
  rw [hp] at hw
  obtain ⟨i, -, hi⟩ := List.mem_filterMap.mp hw
  have hm : w ∈ big := by first | exact List.mem_of_getElem? hi | exact List.getElem?_mem hi
  exact ⟨hm, good_of_word h1⟩
theorem goodIn_app {big a b : List Cond} (ha : GoodIn big a) (hb : GoodIn big b) : GoodIn big (a ++ b) := fun w h => (List.mem_append.mp h).elim (ha w) (hb w)
theorem goodIn_ca {big a b : List Cond} {c : Cond} (ha : GoodIn big (c :: a)) (hb : GoodIn big b) : GoodIn big (c :: (a ++ b)) := fun w h => (List.mem_cons.mp h).elim (fun e => ha w (List.mem_cons.mpr (Or.inl e))) (fun h => (List.mem_append.mp h).elim (fun h => ha w (List.mem_cons.mpr (Or.inr h))) (hb w))
theorem goodIn_sub {big ws : List Cond} (hm : ∀ w ∈ ws, w ∈ big) (h : ws.all goodWord = true) : GoodIn big ws := fun w hw => ⟨hm w hw, good_of_word (List.all_eq_true.mp h w hw)⟩
/-! ===== END ===== -/

/-! ===== BEGIN printed: names, fields, word lists, decode rows ===== -/
def RX0 : String := "SongOffice$BargainBook"
def TX0 : u_T := fun k => match k with
  | 0 => ("SongOffice$BargainBook", "kinds", "[I", true)
  | 1 => ("SongOffice$BargainBook", "hands", "[I", true)
  | 2 => ("SongOffice$BargainBook", "works", "[I", true)
  | 3 => ("SongOffice$BargainBook", "days", "[I", true)
  | 4 => ("SongOffice$BargainBook", "x", "[I", true)
  | 5 => ("SongOffice$BargainBook", "y", "[I", true)
  | 6 => ("SongOffice$BargainBook", "z", "[I", true)
  | 7 => ("SongOffice$BargainBook", "takers", "[I", true)
  | _ => ("SongOffice$BargainBook", "size", "I", false)
def tyX0 : Nat → FieldType := fun k => match k with
  | 0 => .array .int
  | 1 => .array .int
  | 2 => .array .int
  | 3 => .array .int
  | 4 => .array .int
  | 5 => .array .int
  | 6 => .array .int
  | 7 => .array .int
  | _ => .int
abbrev wsX00 : List Cond := u_ws RX0 TX0 9
theorem nmX0 : ∀ a, a < 9 → ∀ b, b < 9 → a ≠ b → (TX0 a).2.1 ≠ (TX0 b).2.1 := by decide +kernel
theorem tyX0_ok : ∀ k, k < 9 → parseFieldDescriptor (TX0 k).2.2.1 = some (tyX0 k) := by decide +kernel
abbrev cX0_init : ByteArray := prog_2_method_1_code
def yX0_init : MethodName := ⟨RX0, "<init>", "()V"⟩
abbrev cX0_add : ByteArray := prog_2_method_2_code
def yX0_add : MethodName := ⟨RX0, "add", "(IIII)I"⟩
abbrev cX0_agree : ByteArray := prog_2_method_3_code
def yX0_agree : MethodName := ⟨RX0, "agree", "(IIIII)V"⟩
abbrev cX0_holdsFor : ByteArray := prog_2_method_4_code
def yX0_holdsFor : MethodName := ⟨RX0, "holdsFor", "(IIII)Z"⟩
abbrev cX0_isReserveOf : ByteArray := prog_2_method_5_code
def yX0_isReserveOf : MethodName := ⟨RX0, "isReserveOf", "(II)Z"⟩
def RX1 : String := "SongOffice$Books"
def TX1 : u_T := fun k => match k with
  | 0 => ("SongOffice$Books", "shares", "LSongOffice$ShareBook;", true)
  | 1 => ("SongOffice$Books", "bargains", "LSongOffice$BargainBook;", true)
  | 2 => ("SongOffice$Books", "reports", "LSongOffice$ReportBook;", true)
  | _ => ("SongOffice$Books", "sentBack", "LSongOffice$SentBook;", true)
def tyX1 : Nat → FieldType := fun k => match k with
  | 0 => .object "SongOffice$ShareBook"
  | 1 => .object "SongOffice$BargainBook"
  | 2 => .object "SongOffice$ReportBook"
  | _ => .object "SongOffice$SentBook"
abbrev wsX10 : List Cond := u_ws RX1 TX1 4
theorem nmX1 : ∀ a, a < 4 → ∀ b, b < 4 → a ≠ b → (TX1 a).2.1 ≠ (TX1 b).2.1 := by decide +kernel
theorem tyX1_ok : ∀ k, k < 4 → parseFieldDescriptor (TX1 k).2.2.1 = some (tyX1 k) := by decide +kernel
abbrev cX1_init : ByteArray := prog_3_method_1_code
def yX1_init : MethodName := ⟨RX1, "<init>", "(LSongOffice$ShareBook;LSongOffice$BargainBook;LSongOffice$ReportBook;LSongOffice$SentBook;)V"⟩
def RX2 : String := "SongOffice$Ledger"
def TX2 : u_T := fun k => match k with
  | 0 => ("SongOffice$Ledger", "purse", "[J", true)
  | 1 => ("SongOffice$Ledger", "debt", "[J", true)
  | 2 => ("SongOffice$Ledger", "filled", "[J", true)
  | 3 => ("SongOffice$Ledger", "dues", "[I", true)
  | 4 => ("SongOffice$Ledger", "kept", "[J", true)
  | 5 => ("SongOffice$Ledger", "came", "[J", true)
  | 6 => ("SongOffice$Ledger", "bags", "[J", true)
  | 7 => ("SongOffice$Ledger", "lines", "LSongOffice$LineBook;", true)
  | 8 => ("SongOffice$Ledger", "cameIn", "J", false)
  | 9 => ("SongOffice$Ledger", "lacked", "J", false)
  | 10 => ("SongOffice$Ledger", "closed", "I", false)
  | 11 => ("SongOffice$Ledger", "sentTaken", "I", false)
  | 12 => ("SongOffice$Ledger", "shares", "LSongOffice$ShareBook;", true)
  | 13 => ("SongOffice$Ledger", "bargains", "LSongOffice$BargainBook;", true)
  | 14 => ("SongOffice$Ledger", "reports", "LSongOffice$ReportBook;", true)
  | _ => ("SongOffice$Ledger", "sentBack", "LSongOffice$SentBook;", true)
def tyX2 : Nat → FieldType := fun k => match k with
  | 0 => .array .long
  | 1 => .array .long
  | 2 => .array .long
  | 3 => .array .int
  | 4 => .array .long
  | 5 => .array .long
  | 6 => .array .long
  | 7 => .object "SongOffice$LineBook"
  | 8 => .long
  | 9 => .long
  | 10 => .int
  | 11 => .int
  | 12 => .object "SongOffice$ShareBook"
  | 13 => .object "SongOffice$BargainBook"
  | 14 => .object "SongOffice$ReportBook"
  | _ => .object "SongOffice$SentBook"
abbrev wsX20 : List Cond := u_ws RX2 TX2 16
theorem nmX2 : ∀ a, a < 16 → ∀ b, b < 16 → a ≠ b → (TX2 a).2.1 ≠ (TX2 b).2.1 := by decide +kernel
theorem tyX2_ok : ∀ k, k < 16 → parseFieldDescriptor (TX2 k).2.2.1 = some (tyX2 k) := by decide +kernel
abbrev cX2_init : ByteArray := prog_4_method_1_code
def yX2_init : MethodName := ⟨RX2, "<init>", "(LSongOffice$Books;I)V"⟩
abbrev cX2_clear : ByteArray := prog_4_method_2_code
def yX2_clear : MethodName := ⟨RX2, "clear", "()V"⟩
abbrev cX2_reckonTo : ByteArray := prog_4_method_3_code
def yX2_reckonTo : MethodName := ⟨RX2, "reckonTo", "(I)V"⟩
abbrev cX2_becomeLike : ByteArray := prog_4_method_4_code
def yX2_becomeLike : MethodName := ⟨RX2, "becomeLike", "(LSongOffice$Ledger;)V"⟩
abbrev cX2_worth : ByteArray := prog_4_method_5_code
def yX2_worth : MethodName := ⟨RX2, "worth", "(I)J"⟩
abbrev cX2_allDues : ByteArray := prog_4_method_6_code
def yX2_allDues : MethodName := ⟨RX2, "allDues", "(I)J"⟩
abbrev cX2_allFilled : ByteArray := prog_4_method_7_code
def yX2_allFilled : MethodName := ⟨RX2, "allFilled", "()J"⟩
abbrev cX2_stillIn : ByteArray := prog_4_method_8_code
def yX2_stillIn : MethodName := ⟨RX2, "stillIn", "(I)J"⟩
abbrev cX2_duesOf : ByteArray := prog_4_method_9_code
def yX2_duesOf : MethodName := ⟨RX2, "duesOf", "(III)J"⟩
abbrev cX2_takeSentOf : ByteArray := prog_4_method_10_code
def yX2_takeSentOf : MethodName := ⟨RX2, "takeSentOf", "(I)V"⟩
abbrev cX2_takeSent : ByteArray := prog_4_method_11_code
def yX2_takeSent : MethodName := ⟨RX2, "takeSent", "(IJ)V"⟩
abbrev cX2_closeTerm : ByteArray := prog_4_method_12_code
def yX2_closeTerm : MethodName := ⟨RX2, "closeTerm", "()V"⟩
abbrev cX2_lastDay : ByteArray := prog_4_method_13_code
def yX2_lastDay : MethodName := ⟨RX2, "lastDay", "()I"⟩
abbrev cX2_bringIn : ByteArray := prog_4_method_14_code
def yX2_bringIn : MethodName := ⟨RX2, "bringIn", "(I)V"⟩
abbrev cX2_runLine : ByteArray := prog_4_method_15_code
def yX2_runLine : MethodName := ⟨RX2, "runLine", "(IIIIJ)V"⟩
abbrev cX2_takenBy : ByteArray := prog_4_method_16_code
def yX2_takenBy : MethodName := ⟨RX2, "takenBy", "(IJ)J"⟩
abbrev cX2_emptyOldBags : ByteArray := prog_4_method_17_code
def yX2_emptyOldBags : MethodName := ⟨RX2, "emptyOldBags", "()V"⟩
abbrev cX2_payHands : ByteArray := prog_4_method_18_code
def yX2_payHands : MethodName := ⟨RX2, "payHands", "()V"⟩
abbrev cX2_fillFloors : ByteArray := prog_4_method_19_code
def yX2_fillFloors : MethodName := ⟨RX2, "fillFloors", "()V"⟩
def RX3 : String := "SongOffice$LineBook"
def TX3 : u_T := fun k => match k with
  | 0 => ("SongOffice$LineBook", "room", "I", true)
  | 1 => ("SongOffice$LineBook", "work", "[I", true)
  | 2 => ("SongOffice$LineBook", "owner", "[I", true)
  | 3 => ("SongOffice$LineBook", "from", "[I", true)
  | 4 => ("SongOffice$LineBook", "began", "[J", true)
  | 5 => ("SongOffice$LineBook", "ended", "[J", true)
  | _ => ("SongOffice$LineBook", "size", "I", false)
def tyX3 : Nat → FieldType := fun k => match k with
  | 0 => .int
  | 1 => .array .int
  | 2 => .array .int
  | 3 => .array .int
  | 4 => .array .long
  | 5 => .array .long
  | _ => .int
abbrev wsX30 : List Cond := u_ws RX3 TX3 7
theorem nmX3 : ∀ a, a < 7 → ∀ b, b < 7 → a ≠ b → (TX3 a).2.1 ≠ (TX3 b).2.1 := by decide +kernel
theorem tyX3_ok : ∀ k, k < 7 → parseFieldDescriptor (TX3 k).2.2.1 = some (tyX3 k) := by decide +kernel
abbrev cX3_init : ByteArray := prog_5_method_1_code
def yX3_init : MethodName := ⟨RX3, "<init>", "(I)V"⟩
abbrev cX3_kept : ByteArray := prog_5_method_2_code
def yX3_kept : MethodName := ⟨RX3, "kept", "()I"⟩
abbrev cX3_begin : ByteArray := prog_5_method_3_code
def yX3_begin : MethodName := ⟨RX3, "begin", "(IIIJ)I"⟩
abbrev cX3_end : ByteArray := prog_5_method_4_code
def yX3_end : MethodName := ⟨RX3, "end", "(IJ)V"⟩
def RX4 : String := "SongOffice$ReportBook"
def TX4 : u_T := fun k => match k with
  | 0 => ("SongOffice$ReportBook", "coins", "[I", true)
  | 1 => ("SongOffice$ReportBook", "ways", "[I", true)
  | 2 => ("SongOffice$ReportBook", "places", "[I", true)
  | 3 => ("SongOffice$ReportBook", "order", "[I", true)
  | 4 => ("SongOffice$ReportBook", "sizes", "[I", true)
  | _ => ("SongOffice$ReportBook", "openWorks", "[I", true)
def tyX4 : Nat → FieldType := fun k => match k with
  | 0 => .array .int
  | 1 => .array .int
  | 2 => .array .int
  | 3 => .array .int
  | 4 => .array .int
  | _ => .array .int
abbrev wsX40 : List Cond := u_ws RX4 TX4 6
theorem nmX4 : ∀ a, a < 6 → ∀ b, b < 6 → a ≠ b → (TX4 a).2.1 ≠ (TX4 b).2.1 := by decide +kernel
theorem tyX4_ok : ∀ k, k < 6 → parseFieldDescriptor (TX4 k).2.2.1 = some (tyX4 k) := by decide +kernel
abbrev cX4_init : ByteArray := prog_6_method_1_code
def yX4_init : MethodName := ⟨RX4, "<init>", "()V"⟩
abbrev cX4_put : ByteArray := prog_6_method_2_code
def yX4_put : MethodName := ⟨RX4, "put", "(IIIIIZ)V"⟩
abbrev cX4_tearAt : ByteArray := prog_6_method_3_code
def yX4_tearAt : MethodName := ⟨RX4, "tearAt", "(II)V"⟩
abbrev cX4_tornAt : ByteArray := prog_6_method_4_code
def yX4_tornAt : MethodName := ⟨RX4, "tornAt", "(I)I"⟩
abbrev cX4_bringBack : ByteArray := prog_6_method_5_code
def yX4_bringBack : MethodName := ⟨RX4, "bringBack", "(II)V"⟩
abbrev cX4_isOpen : ByteArray := prog_6_method_6_code
def yX4_isOpen : MethodName := ⟨RX4, "isOpen", "(II)Z"⟩
abbrev cX4_sizeOf : ByteArray := prog_6_method_7_code
def yX4_sizeOf : MethodName := ⟨RX4, "sizeOf", "(I)I"⟩
abbrev cX4_workAt : ByteArray := prog_6_method_8_code
def yX4_workAt : MethodName := ⟨RX4, "workAt", "(II)I"⟩
abbrev cX4_coinsOf : ByteArray := prog_6_method_9_code
def yX4_coinsOf : MethodName := ⟨RX4, "coinsOf", "(III)I"⟩
abbrev cX4_wayOf : ByteArray := prog_6_method_10_code
def yX4_wayOf : MethodName := ⟨RX4, "wayOf", "(II)I"⟩
abbrev cX4_placeOf : ByteArray := prog_6_method_11_code
def yX4_placeOf : MethodName := ⟨RX4, "placeOf", "(II)I"⟩
def RX5 : String := "SongOffice$SentBook"
def TX5 : u_T := fun k => match k with
  | 0 => ("SongOffice$SentBook", "hands", "[I", true)
  | 1 => ("SongOffice$SentBook", "coins", "[I", true)
  | 2 => ("SongOffice$SentBook", "terms", "[I", true)
  | 3 => ("SongOffice$SentBook", "size", "I", false)
  | _ => ("SongOffice$SentBook", "coinsInAll", "J", false)
def tyX5 : Nat → FieldType := fun k => match k with
  | 0 => .array .int
  | 1 => .array .int
  | 2 => .array .int
  | 3 => .int
  | _ => .long
abbrev wsX50 : List Cond := u_ws RX5 TX5 5
theorem nmX5 : ∀ a, a < 5 → ∀ b, b < 5 → a ≠ b → (TX5 a).2.1 ≠ (TX5 b).2.1 := by decide +kernel
theorem tyX5_ok : ∀ k, k < 5 → parseFieldDescriptor (TX5 k).2.2.1 = some (tyX5 k) := by decide +kernel
abbrev cX5_init : ByteArray := prog_7_method_1_code
def yX5_init : MethodName := ⟨RX5, "<init>", "()V"⟩
abbrev cX5_add : ByteArray := prog_7_method_2_code
def yX5_add : MethodName := ⟨RX5, "add", "(III)V"⟩
def RX6 : String := "SongOffice$ShareBook"
def TX6 : u_T := fun k => match k with
  | 0 => ("SongOffice$ShareBook", "sets", "[I", true)
  | 1 => ("SongOffice$ShareBook", "days", "[I", true)
  | 2 => ("SongOffice$ShareBook", "hands", "[I", true)
  | _ => ("SongOffice$ShareBook", "parts", "[I", true)
def tyX6 : Nat → FieldType := fun k => match k with
  | 0 => .array .int
  | 1 => .array .int
  | 2 => .array .int
  | _ => .array .int
abbrev wsX60 : List Cond := u_ws RX6 TX6 4
theorem nmX6 : ∀ a, a < 4 → ∀ b, b < 4 → a ≠ b → (TX6 a).2.1 ≠ (TX6 b).2.1 := by decide +kernel
theorem tyX6_ok : ∀ k, k < 4 → parseFieldDescriptor (TX6 k).2.2.1 = some (tyX6 k) := by decide +kernel
abbrev cX6_init : ByteArray := prog_8_method_1_code
def yX6_init : MethodName := ⟨RX6, "<init>", "()V"⟩
abbrev cX6_hasRoom : ByteArray := prog_8_method_2_code
def yX6_hasRoom : MethodName := ⟨RX6, "hasRoom", "(II)Z"⟩
abbrev cX6_addSet : ByteArray := prog_8_method_3_code
def yX6_addSet : MethodName := ⟨RX6, "addSet", "(II)I"⟩
abbrev cX6_put : ByteArray := prog_8_method_4_code
def yX6_put : MethodName := ⟨RX6, "put", "(IIII)V"⟩
abbrev cX6_setAt : ByteArray := prog_8_method_5_code
def yX6_setAt : MethodName := ⟨RX6, "setAt", "(II)I"⟩
def RX7 : String := "SongOffice"
def TX7 : u_T := fun k => match k with
  | 0 => ("SongOffice", "shares", "LSongOffice$ShareBook;", true)
  | 1 => ("SongOffice", "bargains", "LSongOffice$BargainBook;", true)
  | 2 => ("SongOffice", "reports", "LSongOffice$ReportBook;", true)
  | 3 => ("SongOffice", "sentBack", "LSongOffice$SentBook;", true)
  | 4 => ("SongOffice", "standing", "LSongOffice$Ledger;", true)
  | 5 => ("SongOffice", "anew", "LSongOffice$Ledger;", true)
  | _ => ("SongOffice", "settled", "I", false)
def tyX7 : Nat → FieldType := fun k => match k with
  | 0 => .object "SongOffice$ShareBook"
  | 1 => .object "SongOffice$BargainBook"
  | 2 => .object "SongOffice$ReportBook"
  | 3 => .object "SongOffice$SentBook"
  | 4 => .object "SongOffice$Ledger"
  | 5 => .object "SongOffice$Ledger"
  | _ => .int
abbrev wsX70 : List Cond := u_ws RX7 TX7 7
theorem nmX7 : ∀ a, a < 7 → ∀ b, b < 7 → a ≠ b → (TX7 a).2.1 ≠ (TX7 b).2.1 := by decide +kernel
theorem tyX7_ok : ∀ k, k < 7 → parseFieldDescriptor (TX7 k).2.2.1 = some (tyX7 k) := by decide +kernel
abbrev cX7_init : ByteArray := prog_1_method_1_code
def yX7_init : MethodName := ⟨RX7, "<init>", "()V"⟩
abbrev cX7_share : ByteArray := prog_1_method_2_code
def yX7_share : MethodName := ⟨RX7, "share", "(IIIIIIII)I"⟩
abbrev cX7_bargain : ByteArray := prog_1_method_3_code
def yX7_bargain : MethodName := ⟨RX7, "bargain", "(IIIIIIII)I"⟩
abbrev cX7_report : ByteArray := prog_1_method_4_code
def yX7_report : MethodName := ⟨RX7, "report", "(IIIIZ)Z"⟩
abbrev cX7_tear : ByteArray := prog_1_method_5_code
def yX7_tear : MethodName := ⟨RX7, "tear", "(I)Z"⟩
abbrev cX7_sent : ByteArray := prog_1_method_6_code
def yX7_sent : MethodName := ⟨RX7, "sent", "(II)J"⟩
abbrev cX7_close : ByteArray := prog_1_method_7_code
def yX7_close : MethodName := ⟨RX7, "close", "()I"⟩
abbrev cX7_due : ByteArray := prog_1_method_8_code
def yX7_due : MethodName := ⟨RX7, "due", "(II)I"⟩
abbrev cX7_hand : ByteArray := prog_1_method_9_code
def yX7_hand : MethodName := ⟨RX7, "hand", "(II)J"⟩
abbrev cX7_has : ByteArray := prog_1_method_10_code
def yX7_has : MethodName := ⟨RX7, "has", "(II)J"⟩
abbrev cX7_told : ByteArray := prog_1_method_11_code
def yX7_told : MethodName := ⟨RX7, "told", "(III)I"⟩
abbrev cX7_mend : ByteArray := prog_1_method_12_code
def yX7_mend : MethodName := ⟨RX7, "mend", "(IIIIIZ)Z"⟩
abbrev cX7_owe : ByteArray := prog_1_method_13_code
def yX7_owe : MethodName := ⟨RX7, "owe", "()J"⟩
abbrev cX7_settle : ByteArray := prog_1_method_14_code
def yX7_settle : MethodName := ⟨RX7, "settle", "()I"⟩
abbrev cX7_line : ByteArray := prog_1_method_15_code
def yX7_line : MethodName := ⟨RX7, "line", "(II)J"⟩
abbrev cX7_count : ByteArray := prog_1_method_16_code
def yX7_count : MethodName := ⟨RX7, "count", "(I)J"⟩
abbrev cX7_owedTo : ByteArray := prog_1_method_17_code
def yX7_owedTo : MethodName := ⟨RX7, "owedTo", "(I)J"⟩
abbrev cX7_isClosed : ByteArray := prog_1_method_18_code
def yX7_isClosed : MethodName := ⟨RX7, "isClosed", "(I)Z"⟩
abbrev cX7_isTheTerm : ByteArray := prog_1_method_19_code
def yX7_isTheTerm : MethodName := ⟨RX7, "isTheTerm", "(I)Z"⟩
abbrev cX7_isDayAhead : ByteArray := prog_1_method_20_code
def yX7_isDayAhead : MethodName := ⟨RX7, "isDayAhead", "(I)Z"⟩
abbrev cX7_reportFits : ByteArray := prog_1_method_21_code
def yX7_reportFits : MethodName := ⟨RX7, "reportFits", "(IIIIZ)Z"⟩
abbrev cX7_termsFit : ByteArray := prog_1_method_22_code
def yX7_termsFit : MethodName := ⟨RX7, "termsFit", "(IIII)Z"⟩
abbrev cX7_passesOn : ByteArray := prog_1_method_23_code
def yX7_passesOn : MethodName := ⟨RX7, "passesOn", "(I)Z"⟩
abbrev cX7_isHand : ByteArray := prog_1_method_24_code
def yX7_isHand : MethodName := ⟨RX7, "isHand", "(I)Z"⟩
abbrev cX7_isWork : ByteArray := prog_1_method_25_code
def yX7_isWork : MethodName := ⟨RX7, "isWork", "(I)Z"⟩
abbrev cX7_isPart : ByteArray := prog_1_method_26_code
def yX7_isPart : MethodName := ⟨RX7, "isPart", "(I)Z"⟩
abbrev cX7_isSum : ByteArray := prog_1_method_27_code
def yX7_isSum : MethodName := ⟨RX7, "isSum", "(I)Z"⟩
abbrev cX7_isTold : ByteArray := prog_1_method_28_code
def yX7_isTold : MethodName := ⟨RX7, "isTold", "(I)Z"⟩
abbrev cX7_isSharer : ByteArray := prog_1_method_29_code
def yX7_isSharer : MethodName := ⟨RX7, "isSharer", "(II)Z"⟩
def RX8 : String := "SongOfficeModel"
def TX8 : u_T := fun k => match k with
  | 0 => ("SongOfficeModel", "term", "I", false)
  | 1 => ("SongOfficeModel", "setMany", "[I", true)
  | 2 => ("SongOfficeModel", "setDay", "[I", true)
  | 3 => ("SongOfficeModel", "setHand", "[I", true)
  | 4 => ("SongOfficeModel", "setPart", "[I", true)
  | 5 => ("SongOfficeModel", "bargains", "I", false)
  | 6 => ("SongOfficeModel", "kind", "[I", true)
  | 7 => ("SongOfficeModel", "hand", "[I", true)
  | 8 => ("SongOfficeModel", "works", "[I", true)
  | 9 => ("SongOfficeModel", "since", "[I", true)
  | 10 => ("SongOfficeModel", "bx", "[I", true)
  | 11 => ("SongOfficeModel", "by", "[I", true)
  | 12 => ("SongOfficeModel", "bz", "[I", true)
  | 13 => ("SongOfficeModel", "taker", "[I", true)
  | 14 => ("SongOfficeModel", "first", "[I", true)
  | 15 => ("SongOfficeModel", "second", "[I", true)
  | 16 => ("SongOfficeModel", "third", "[I", true)
  | 17 => ("SongOfficeModel", "how", "[I", true)
  | 18 => ("SongOfficeModel", "order", "[I", true)
  | 19 => ("SongOfficeModel", "orderMany", "[I", true)
  | 20 => ("SongOfficeModel", "torn", "[I", true)
  | 21 => ("SongOfficeModel", "mended", "[Z", true)
  | 22 => ("SongOfficeModel", "purse", "[J", true)
  | 23 => ("SongOfficeModel", "debt", "[J", true)
  | 24 => ("SongOfficeModel", "kept", "[J", true)
  | 25 => ("SongOfficeModel", "came", "[J", true)
  | 26 => ("SongOfficeModel", "bags", "[J", true)
  | 27 => ("SongOfficeModel", "dues", "[I", true)
  | 28 => ("SongOfficeModel", "filled", "[I", true)
  | 29 => ("SongOfficeModel", "cameIn", "[J", true)
  | 30 => ("SongOfficeModel", "lineHand", "[I", true)
  | 31 => ("SongOfficeModel", "lineNext", "[I", true)
  | 32 => ("SongOfficeModel", "lineTold", "[I", true)
  | 33 => ("SongOfficeModel", "lineLeft", "[J", true)
  | 34 => ("SongOfficeModel", "deep", "I", false)
  | 35 => ("SongOfficeModel", "lines", "I", false)
  | 36 => ("SongOfficeModel", "toldWork", "[I", true)
  | 37 => ("SongOfficeModel", "toldHand", "[I", true)
  | 38 => ("SongOfficeModel", "toldFrom", "[I", true)
  | 39 => ("SongOfficeModel", "toldMites", "[J", true)
  | 40 => ("SongOfficeModel", "toldPurse", "[J", true)
  | 41 => ("SongOfficeModel", "sents", "I", false)
  | 42 => ("SongOfficeModel", "sentHand", "[I", true)
  | 43 => ("SongOfficeModel", "sentCoins", "[I", true)
  | 44 => ("SongOfficeModel", "sentTerm", "[I", true)
  | 45 => ("SongOfficeModel", "sentAll", "J", false)
  | _ => ("SongOfficeModel", "settled", "I", false)
def tyX8 : Nat → FieldType := fun k => match k with
  | 0 => .int
  | 1 => .array .int
  | 2 => .array .int
  | 3 => .array .int
  | 4 => .array .int
  | 5 => .int
  | 6 => .array .int
  | 7 => .array .int
  | 8 => .array .int
  | 9 => .array .int
  | 10 => .array .int
  | 11 => .array .int
  | 12 => .array .int
  | 13 => .array .int
  | 14 => .array .int
  | 15 => .array .int
  | 16 => .array .int
  | 17 => .array .int
  | 18 => .array .int
  | 19 => .array .int
  | 20 => .array .int
  | 21 => .array .boolean
  | 22 => .array .long
  | 23 => .array .long
  | 24 => .array .long
  | 25 => .array .long
  | 26 => .array .long
  | 27 => .array .int
  | 28 => .array .int
  | 29 => .array .long
  | 30 => .array .int
  | 31 => .array .int
  | 32 => .array .int
  | 33 => .array .long
  | 34 => .int
  | 35 => .int
  | 36 => .array .int
  | 37 => .array .int
  | 38 => .array .int
  | 39 => .array .long
  | 40 => .array .long
  | 41 => .int
  | 42 => .array .int
  | 43 => .array .int
  | 44 => .array .int
  | 45 => .long
  | _ => .int
abbrev wsX80 : List Cond := u_ws RX8 TX8 47
theorem nmX8 : ∀ a, a < 47 → ∀ b, b < 47 → a ≠ b → (TX8 a).2.1 ≠ (TX8 b).2.1 := by decide +kernel
theorem tyX8_ok : ∀ k, k < 47 → parseFieldDescriptor (TX8 k).2.2.1 = some (tyX8 k) := by decide +kernel
abbrev cX8_init : ByteArray := prog_10_method_1_code
def yX8_init : MethodName := ⟨RX8, "<init>", "()V"⟩
abbrev cX8_isHand : ByteArray := prog_10_method_2_code
def yX8_isHand : MethodName := ⟨RX8, "isHand", "(I)Z"⟩
abbrev cX8_isWork : ByteArray := prog_10_method_3_code
def yX8_isWork : MethodName := ⟨RX8, "isWork", "(I)Z"⟩
abbrev cX8_isPart : ByteArray := prog_10_method_4_code
def yX8_isPart : MethodName := ⟨RX8, "isPart", "(II)Z"⟩
abbrev cX8_isDay : ByteArray := prog_10_method_5_code
def yX8_isDay : MethodName := ⟨RX8, "isDay", "(I)Z"⟩
abbrev cX8_share : ByteArray := prog_10_method_6_code
def yX8_share : MethodName := ⟨RX8, "share", "(IIIIIIII)I"⟩
abbrev cX8_setOn : ByteArray := prog_10_method_7_code
def yX8_setOn : MethodName := ⟨RX8, "setOn", "(II)I"⟩
abbrev cX8_isSum : ByteArray := prog_10_method_8_code
def yX8_isSum : MethodName := ⟨RX8, "isSum", "(I)Z"⟩
abbrev cX8_isThousandth : ByteArray := prog_10_method_9_code
def yX8_isThousandth : MethodName := ⟨RX8, "isThousandth", "(I)Z"⟩
abbrev cX8_areGood : ByteArray := prog_10_method_10_code
def yX8_areGood : MethodName := ⟨RX8, "areGood", "(IIIIII)Z"⟩
abbrev cX8_bargain : ByteArray := prog_10_method_11_code
def yX8_bargain : MethodName := ⟨RX8, "bargain", "(IIIIIIII)I"⟩
abbrev cX8_areCoins : ByteArray := prog_10_method_12_code
def yX8_areCoins : MethodName := ⟨RX8, "areCoins", "(I)Z"⟩
abbrev cX8_isReport : ByteArray := prog_10_method_13_code
def yX8_isReport : MethodName := ⟨RX8, "isReport", "(IIIIZ)Z"⟩
abbrev cX8_puts : ByteArray := prog_10_method_14_code
def yX8_puts : MethodName := ⟨RX8, "puts", "(IIIIIZ)V"⟩
abbrev cX8_report : ByteArray := prog_10_method_15_code
def yX8_report : MethodName := ⟨RX8, "report", "(IIIIZ)Z"⟩
abbrev cX8_mend : ByteArray := prog_10_method_16_code
def yX8_mend : MethodName := ⟨RX8, "mend", "(IIIIIZ)Z"⟩
abbrev cX8_tear : ByteArray := prog_10_method_17_code
def yX8_tear : MethodName := ⟨RX8, "tear", "(I)Z"⟩
abbrev cX8_isOpen : ByteArray := prog_10_method_18_code
def yX8_isOpen : MethodName := ⟨RX8, "isOpen", "(II)Z"⟩
abbrev cX8_told : ByteArray := prog_10_method_19_code
def yX8_told : MethodName := ⟨RX8, "told", "(III)I"⟩
abbrev cX8_empties : ByteArray := prog_10_method_20_code
def yX8_empties : MethodName := ⟨RX8, "empties", "()V"⟩
abbrev cX8_bag : ByteArray := prog_10_method_21_code
def yX8_bag : MethodName := ⟨RX8, "bag", "(III)I"⟩
abbrev cX8_dueAt : ByteArray := prog_10_method_22_code
def yX8_dueAt : MethodName := ⟨RX8, "dueAt", "(III)I"⟩
abbrev cX8_begins : ByteArray := prog_10_method_23_code
def yX8_begins : MethodName := ⟨RX8, "begins", "(IIIIJ)V"⟩
abbrev cX8_goes : ByteArray := prog_10_method_24_code
def yX8_goes : MethodName := ⟨RX8, "goes", "(IIIIJ)V"⟩
abbrev cX8_meets : ByteArray := prog_10_method_25_code
def yX8_meets : MethodName := ⟨RX8, "meets", "(IIIII)V"⟩
abbrev cX8_comes : ByteArray := prog_10_method_26_code
def yX8_comes : MethodName := ⟨RX8, "comes", "(IIIII)V"⟩
abbrev cX8_closes : ByteArray := prog_10_method_27_code
def yX8_closes : MethodName := ⟨RX8, "closes", "(II)V"⟩
abbrev cX8_pays : ByteArray := prog_10_method_28_code
def yX8_pays : MethodName := ⟨RX8, "pays", "(III)V"⟩
abbrev cX8_fills : ByteArray := prog_10_method_29_code
def yX8_fills : MethodName := ⟨RX8, "fills", "(III)V"⟩
abbrev cX8_close : ByteArray := prog_10_method_30_code
def yX8_close : MethodName := ⟨RX8, "close", "()I"⟩
abbrev cX8_takes : ByteArray := prog_10_method_31_code
def yX8_takes : MethodName := ⟨RX8, "takes", "(III)J"⟩
abbrev cX8_sent : ByteArray := prog_10_method_32_code
def yX8_sent : MethodName := ⟨RX8, "sent", "(II)J"⟩
abbrev cX8_sentIn : ByteArray := prog_10_method_33_code
def yX8_sentIn : MethodName := ⟨RX8, "sentIn", "(I)V"⟩
abbrev cX8_anew : ByteArray := prog_10_method_34_code
def yX8_anew : MethodName := ⟨RX8, "anew", "()V"⟩
abbrev cX8_duesOf : ByteArray := prog_10_method_35_code
def yX8_duesOf : MethodName := ⟨RX8, "duesOf", "(II)J"⟩
abbrev cX8_worth : ByteArray := prog_10_method_36_code
def yX8_worth : MethodName := ⟨RX8, "worth", "(II)J"⟩
abbrev cX8_owed : ByteArray := prog_10_method_37_code
def yX8_owed : MethodName := ⟨RX8, "owed", "(I)J"⟩
abbrev cX8_owe : ByteArray := prog_10_method_38_code
def yX8_owe : MethodName := ⟨RX8, "owe", "()J"⟩
abbrev cX8_settle : ByteArray := prog_10_method_39_code
def yX8_settle : MethodName := ⟨RX8, "settle", "()I"⟩
abbrev cX8_due : ByteArray := prog_10_method_40_code
def yX8_due : MethodName := ⟨RX8, "due", "(II)I"⟩
abbrev cX8_hand : ByteArray := prog_10_method_41_code
def yX8_hand : MethodName := ⟨RX8, "hand", "(II)J"⟩
abbrev cX8_inBags : ByteArray := prog_10_method_42_code
def yX8_inBags : MethodName := ⟨RX8, "inBags", "(I)J"⟩
abbrev cX8_has : ByteArray := prog_10_method_43_code
def yX8_has : MethodName := ⟨RX8, "has", "(II)J"⟩
abbrev cX8_line : ByteArray := prog_10_method_44_code
def yX8_line : MethodName := ⟨RX8, "line", "(II)J"⟩
abbrev cX8_count : ByteArray := prog_10_method_45_code
def yX8_count : MethodName := ⟨RX8, "count", "(I)J"⟩
def RJ6 : String := "java/lang/Integer"
def TJ6 : u_T := fun k => match k with
  | _ => ("", "", "", false)
def tyJ6 : Nat → FieldType := fun k => match k with
  | _ => .int
abbrev wsJ60 : List Cond := u_ws RJ6 TJ6 0
theorem nmJ6 : ∀ a, a < 0 → ∀ b, b < 0 → a ≠ b → (TJ6 a).2.1 ≠ (TJ6 b).2.1 := by decide +kernel
theorem tyJ6_ok : ∀ k, k < 0 → parseFieldDescriptor (TJ6 k).2.2.1 = some (tyJ6 k) := by decide +kernel
abbrev cJ6_bitCount_0f7a4 : ByteArray := prog_11_method_49_code
def yJ6_bitCount_0f7a4 : MethodName := ⟨RJ6, "bitCount", "(I)I"⟩
def RJ9 : String := "java/lang/Math"
def TJ9 : u_T := fun k => match k with
  | _ => ("", "", "", false)
def tyJ9 : Nat → FieldType := fun k => match k with
  | _ => .int
abbrev wsJ90 : List Cond := u_ws RJ9 TJ9 0
theorem nmJ9 : ∀ a, a < 0 → ∀ b, b < 0 → a ≠ b → (TJ9 a).2.1 ≠ (TJ9 b).2.1 := by decide +kernel
theorem tyJ9_ok : ∀ k, k < 0 → parseFieldDescriptor (TJ9 k).2.2.1 = some (tyJ9 k) := by decide +kernel
abbrev cJ9_max_7cf53 : ByteArray := prog_12_method_65_code
def yJ9_max_7cf53 : MethodName := ⟨RJ9, "max", "(II)I"⟩
abbrev cJ9_max_f86c9 : ByteArray := prog_12_method_66_code
def yJ9_max_f86c9 : MethodName := ⟨RJ9, "max", "(JJ)J"⟩
abbrev cJ9_min_7cf53 : ByteArray := prog_12_method_69_code
def yJ9_min_7cf53 : MethodName := ⟨RJ9, "min", "(II)I"⟩
abbrev cJ9_min_f86c9 : ByteArray := prog_12_method_70_code
def yJ9_min_f86c9 : MethodName := ⟨RJ9, "min", "(JJ)J"⟩
def RJ10 : String := "java/lang/System"
def TJ10 : u_T := fun k => match k with
  | _ => ("", "", "", false)
def tyJ10 : Nat → FieldType := fun k => match k with
  | _ => .int
abbrev wsJ100 : List Cond := u_ws RJ10 TJ10 0
theorem nmJ10 : ∀ a, a < 0 → ∀ b, b < 0 → a ≠ b → (TJ10 a).2.1 ≠ (TJ10 b).2.1 := by decide +kernel
theorem tyJ10_ok : ∀ k, k < 0 → parseFieldDescriptor (TJ10 k).2.2.1 = some (tyJ10 k) := by decide +kernel
def RJ7 : String := "java/util/Arrays"
def TJ7 : u_T := fun k => match k with
  | _ => ("", "", "", false)
def tyJ7 : Nat → FieldType := fun k => match k with
  | _ => .int
abbrev wsJ70 : List Cond := u_ws RJ7 TJ7 0
theorem nmJ7 : ∀ a, a < 0 → ∀ b, b < 0 → a ≠ b → (TJ7 a).2.1 ≠ (TJ7 b).2.1 := by decide +kernel
theorem tyJ7_ok : ∀ k, k < 0 → parseFieldDescriptor (TJ7 k).2.2.1 = some (tyJ7 k) := by decide +kernel
abbrev cJ7_fill_d0a16 : ByteArray := prog_14_method_101_code
def yJ7_fill_d0a16 : MethodName := ⟨RJ7, "fill", "([JJ)V"⟩
abbrev cJ7_fill_53178 : ByteArray := prog_14_method_103_code
def yJ7_fill_53178 : MethodName := ⟨RJ7, "fill", "([II)V"⟩
def RL : String := "SongOfficeLaw"
abbrev cL_law : ByteArray := code
def yL_law : MethodName := ⟨RL, "law", "([I)Z"⟩
def wsX0_init : List Cond := .code yX0_init cX0_init 1 none :: ([.methodLink RX0 3 objectInit, .instanceMethod objectInit, .code objectInit ⟨#[0xb1]⟩ 1 none, .arrayClass .int, .fieldLink RX0 9 "SongOffice$BargainBook" "kinds" "[I", .fieldLink RX0 15 "SongOffice$BargainBook" "hands" "[I", .fieldLink RX0 18 "SongOffice$BargainBook" "works" "[I", .fieldLink RX0 21 "SongOffice$BargainBook" "days" "[I", .fieldLink RX0 24 "SongOffice$BargainBook" "x" "[I", .fieldLink RX0 27 "SongOffice$BargainBook" "y" "[I", .fieldLink RX0 30 "SongOffice$BargainBook" "z" "[I", .fieldLink RX0 33 "SongOffice$BargainBook" "takers" "[I"] ++ wsX00)
def wsX0_add : List Cond := .code yX0_add cX0_add 6 (some .int) :: ([.fieldLink RX0 36 "SongOffice$BargainBook" "size" "I", .fieldLink RX0 9 "SongOffice$BargainBook" "kinds" "[I", .fieldLink RX0 15 "SongOffice$BargainBook" "hands" "[I", .fieldLink RX0 18 "SongOffice$BargainBook" "works" "[I", .fieldLink RX0 21 "SongOffice$BargainBook" "days" "[I"] ++ wsX00)
def wsX0_agree : List Cond := .code yX0_agree cX0_agree 6 none :: ([.fieldLink RX0 24 "SongOffice$BargainBook" "x" "[I", .fieldLink RX0 27 "SongOffice$BargainBook" "y" "[I", .fieldLink RX0 30 "SongOffice$BargainBook" "z" "[I", .fieldLink RX0 33 "SongOffice$BargainBook" "takers" "[I"] ++ wsX00)
def wsX0_holdsFor : List Cond := .code yX0_holdsFor cX0_holdsFor 5 (some .boolean) :: ([.fieldLink RX0 15 "SongOffice$BargainBook" "hands" "[I", .fieldLink RX0 18 "SongOffice$BargainBook" "works" "[I", .fieldLink RX0 21 "SongOffice$BargainBook" "days" "[I"] ++ wsX00)
def wsX0_isReserveOf : List Cond := .code yX0_isReserveOf cX0_isReserveOf 3 (some .boolean) :: ([.fieldLink RX0 9 "SongOffice$BargainBook" "kinds" "[I", .fieldLink RX0 15 "SongOffice$BargainBook" "hands" "[I"] ++ wsX00)
def wsX1_init : List Cond := .code yX1_init cX1_init 5 none :: ([.methodLink RX1 1 objectInit, .instanceMethod objectInit, .code objectInit ⟨#[0xb1]⟩ 1 none, .fieldLink RX1 7 "SongOffice$Books" "shares" "LSongOffice$ShareBook;", .fieldLink RX1 13 "SongOffice$Books" "bargains" "LSongOffice$BargainBook;", .fieldLink RX1 17 "SongOffice$Books" "reports" "LSongOffice$ReportBook;", .fieldLink RX1 21 "SongOffice$Books" "sentBack" "LSongOffice$SentBook;"] ++ wsX10)
def wsX3_init : List Cond := .code yX3_init cX3_init 2 none :: ([.methodLink RX3 1 objectInit, .instanceMethod objectInit, .code objectInit ⟨#[0xb1]⟩ 1 none, .methodLink RX3 7 Lib.Math.max.name, .static Lib.Math.max.name, .initialized "java/lang/Math", .code Lib.Math.max.name Lib.Math.max.code 2 (some .int), .fieldLink RX3 13 "SongOffice$LineBook" "room" "I", .arrayClass .int, .fieldLink RX3 19 "SongOffice$LineBook" "work" "[I", .fieldLink RX3 23 "SongOffice$LineBook" "owner" "[I", .fieldLink RX3 26 "SongOffice$LineBook" "from" "[I", .arrayClass .long, .fieldLink RX3 29 "SongOffice$LineBook" "began" "[J", .fieldLink RX3 33 "SongOffice$LineBook" "ended" "[J"] ++ wsX30)
def wsX2_init_r1 : List Cond := [Cond.methodLink RX2 3 objectInit, Cond.instanceMethod objectInit, Cond.code objectInit ⟨#[0xb1]⟩ 1 none, Cond.arrayClass .long, Cond.fieldLink RX2 9 "SongOffice$Ledger" "purse" "[J", Cond.fieldLink RX2 15 "SongOffice$Ledger" "debt" "[J", Cond.fieldLink RX2 18 "SongOffice$Ledger" "filled" "[J", Cond.arrayClass .int, Cond.fieldLink RX2 21 "SongOffice$Ledger" "dues" "[I", Cond.fieldLink RX2 25 "SongOffice$Ledger" "kept" "[J", Cond.fieldLink RX2 28 "SongOffice$Ledger" "came" "[J", Cond.fieldLink RX2 31 "SongOffice$Ledger" "bags" "[J", Cond.fieldLink RX2 34 "SongOffice$Books" "shares" "LSongOffice$ShareBook;", Cond.fieldLink RX2 40 "SongOffice$Ledger" "shares" "LSongOffice$ShareBook;", Cond.fieldLink RX2 41 "SongOffice$Books" "bargains" "LSongOffice$BargainBook;", Cond.fieldLink RX2 45 "SongOffice$Ledger" "bargains" "LSongOffice$BargainBook;", Cond.fieldLink RX2 46 "SongOffice$Books" "reports" "LSongOffice$ReportBook;", Cond.fieldLink RX2 50 "SongOffice$Ledger" "reports" "LSongOffice$ReportBook;", Cond.fieldLink RX2 51 "SongOffice$Books" "sentBack" "LSongOffice$SentBook;", Cond.fieldLink RX2 55 "SongOffice$Ledger" "sentBack" "LSongOffice$SentBook;", Cond.classLink RX2 56 RX3, Cond.instantiable RX3 7, Cond.initialized RX3, Cond.fieldLink RX2 61 "SongOffice$Ledger" "lines" "LSongOffice$LineBook;"]
def wsX2_init_r2 : List Cond := [Cond.methodLink RX2 58 yX3_init, Cond.instanceMethod yX3_init, Cond.code yX3_init cX3_init 2 none, Cond.methodLink RX3 1 objectInit, Cond.methodLink RX3 7 Lib.Math.max.name, Cond.static Lib.Math.max.name, Cond.initialized "java/lang/Math", Cond.code Lib.Math.max.name Lib.Math.max.code 2 (some .int), Cond.fieldLink RX3 13 "SongOffice$LineBook" "room" "I", Cond.fieldLink RX3 19 "SongOffice$LineBook" "work" "[I", Cond.fieldLink RX3 23 "SongOffice$LineBook" "owner" "[I", Cond.fieldLink RX3 26 "SongOffice$LineBook" "from" "[I", Cond.fieldLink RX3 29 "SongOffice$LineBook" "began" "[J", Cond.fieldLink RX3 33 "SongOffice$LineBook" "ended" "[J"]
def wsX2_init : List Cond := .code yX2_init cX2_init 3 none :: ((wsX2_init_r1 ++ wsX2_init_r2) ++ wsX20 ++ wsX10 ++ wsX30)
def wsJ7_fill_d0a16 : List Cond := .code yJ7_fill_d0a16 cJ7_fill_d0a16 5 none :: ([])
def wsJ7_fill_53178 : List Cond := .code yJ7_fill_53178 cJ7_fill_53178 4 none :: ([])
def wsX2_clear : List Cond := .code yX2_clear cX2_clear 1 none :: ([.fieldLink RX2 9 "SongOffice$Ledger" "purse" "[J", .fieldLink RX2 15 "SongOffice$Ledger" "debt" "[J", .fieldLink RX2 18 "SongOffice$Ledger" "filled" "[J", .fieldLink RX2 21 "SongOffice$Ledger" "dues" "[I", .fieldLink RX2 25 "SongOffice$Ledger" "kept" "[J", .fieldLink RX2 28 "SongOffice$Ledger" "came" "[J", .fieldLink RX2 31 "SongOffice$Ledger" "bags" "[J", .fieldLink RX2 74 "SongOffice$Ledger" "cameIn" "J", .fieldLink RX2 78 "SongOffice$Ledger" "closed" "I", .fieldLink RX2 82 "SongOffice$Ledger" "sentTaken" "I", .methodLink RX2 65 yJ7_fill_d0a16, .static yJ7_fill_d0a16, .initialized RJ7, .code yJ7_fill_d0a16 cJ7_fill_d0a16 5 none, .methodLink RX2 71 yJ7_fill_53178, .static yJ7_fill_53178, .code yJ7_fill_53178 cJ7_fill_53178 4 none] ++ wsX20)
def wsX2_takeSent : List Cond := .code yX2_takeSent cX2_takeSent 10 none :: ([.fieldLink RX2 78 "SongOffice$Ledger" "closed" "I", .fieldLink RX2 45 "SongOffice$Ledger" "bargains" "LSongOffice$BargainBook;", .fieldLink RX2 142 "SongOffice$BargainBook" "size" "I", .fieldLink RX2 31 "SongOffice$Ledger" "bags" "[J", .methodLink RX2 147 Lib.MathLoose.min_long.x, .static Lib.MathLoose.min_long.x, .initialized "java/lang/Math", .code Lib.MathLoose.min_long.x Lib.MathLoose.min_long.code 4 (some .long), .fieldLink RX2 15 "SongOffice$Ledger" "debt" "[J", .fieldLink RX2 150 "SongOffice$Ledger" "lacked" "J", .methodLink RX2 143 yX0_isReserveOf, .instanceMethod yX0_isReserveOf, .selects RX0 yX0_isReserveOf yX0_isReserveOf, .initialized RX0, .code yX0_isReserveOf cX0_isReserveOf 3 (some .boolean), .fieldLink RX0 9 "SongOffice$BargainBook" "kinds" "[I", .fieldLink RX0 15 "SongOffice$BargainBook" "hands" "[I"] ++ wsX20 ++ wsX00)
def wsX2_takeSentOf_r1 : List Cond := [Cond.fieldLink RX2 82 "SongOffice$Ledger" "sentTaken" "I", Cond.fieldLink RX2 55 "SongOffice$Ledger" "sentBack" "LSongOffice$SentBook;", Cond.fieldLink RX2 124 "SongOffice$SentBook" "size" "I", Cond.fieldLink RX2 129 "SongOffice$SentBook" "terms" "[I", Cond.fieldLink RX2 132 "SongOffice$SentBook" "hands" "[I", Cond.fieldLink RX2 135 "SongOffice$SentBook" "coins" "[I", Cond.constantLong RX2 110 (1000000), Cond.methodLink RX2 138 yX2_takeSent, Cond.instanceMethod yX2_takeSent, Cond.selects RX2 yX2_takeSent yX2_takeSent, Cond.initialized RX2, Cond.code yX2_takeSent cX2_takeSent 10 none, Cond.fieldLink RX2 78 "SongOffice$Ledger" "closed" "I", Cond.fieldLink RX2 45 "SongOffice$Ledger" "bargains" "LSongOffice$BargainBook;", Cond.fieldLink RX2 142 "SongOffice$BargainBook" "size" "I", Cond.fieldLink RX2 31 "SongOffice$Ledger" "bags" "[J", Cond.methodLink RX2 147 Lib.MathLoose.min_long.x, Cond.static Lib.MathLoose.min_long.x, Cond.initialized "java/lang/Math", Cond.code Lib.MathLoose.min_long.x Lib.MathLoose.min_long.code 4 (some .long), Cond.fieldLink RX2 15 "SongOffice$Ledger" "debt" "[J", Cond.fieldLink RX2 150 "SongOffice$Ledger" "lacked" "J", Cond.methodLink RX2 143 yX0_isReserveOf, Cond.instanceMethod yX0_isReserveOf]
def wsX2_takeSentOf_r2 : List Cond := [Cond.selects RX0 yX0_isReserveOf yX0_isReserveOf, Cond.initialized RX0, Cond.code yX0_isReserveOf cX0_isReserveOf 3 (some .boolean), Cond.fieldLink RX0 9 "SongOffice$BargainBook" "kinds" "[I", Cond.fieldLink RX0 15 "SongOffice$BargainBook" "hands" "[I"]
def wsX2_takeSentOf : List Cond := .code yX2_takeSentOf cX2_takeSentOf 2 none :: ((wsX2_takeSentOf_r1 ++ wsX2_takeSentOf_r2) ++ wsX20 ++ wsX50 ++ wsX00)
def wsX4_sizeOf : List Cond := .code yX4_sizeOf cX4_sizeOf 2 (some .int) :: ([.fieldLink RX4 24 "SongOffice$ReportBook" "sizes" "[I"] ++ wsX40)
def wsX4_workAt : List Cond := .code yX4_workAt cX4_workAt 3 (some .int) :: ([.fieldLink RX4 21 "SongOffice$ReportBook" "order" "[I"] ++ wsX40)
def wsX4_isOpen : List Cond := .code yX4_isOpen cX4_isOpen 3 (some .boolean) :: ([.fieldLink RX4 27 "SongOffice$ReportBook" "openWorks" "[I"] ++ wsX40)
def wsX4_wayOf : List Cond := .code yX4_wayOf cX4_wayOf 3 (some .int) :: ([.fieldLink RX4 15 "SongOffice$ReportBook" "ways" "[I"] ++ wsX40)
def wsX4_coinsOf : List Cond := .code yX4_coinsOf cX4_coinsOf 4 (some .int) :: ([.fieldLink RX4 9 "SongOffice$ReportBook" "coins" "[I"] ++ wsX40)
def wsX2_lastDay : List Cond := .code yX2_lastDay cX2_lastDay 1 (some .int) :: ([.fieldLink RX2 78 "SongOffice$Ledger" "closed" "I"] ++ wsX20)
def wsX6_setAt : List Cond := .code yX6_setAt cX6_setAt 5 (some .int) :: ([.fieldLink RX6 9 "SongOffice$ShareBook" "sets" "[I", .fieldLink RX6 15 "SongOffice$ShareBook" "days" "[I"] ++ wsX60)
def wsX3_begin : List Cond := .code yX3_begin cX3_begin 7 (some .int) :: ([.fieldLink RX3 36 "SongOffice$LineBook" "size" "I", .fieldLink RX3 13 "SongOffice$LineBook" "room" "I", .fieldLink RX3 19 "SongOffice$LineBook" "work" "[I", .fieldLink RX3 23 "SongOffice$LineBook" "owner" "[I", .fieldLink RX3 26 "SongOffice$LineBook" "from" "[I", .fieldLink RX3 29 "SongOffice$LineBook" "began" "[J"] ++ wsX30)
def wsX7_passesOn : List Cond := .code yX7_passesOn cX7_passesOn 1 (some .boolean) :: ([])
def wsX2_takenBy : List Cond := .code yX2_takenBy cX2_takenBy 8 (some .long) :: ([.fieldLink RX2 45 "SongOffice$Ledger" "bargains" "LSongOffice$BargainBook;", .fieldLink RX2 121 "SongOffice$BargainBook" "x" "[I", .fieldLink RX2 116 "SongOffice$BargainBook" "kinds" "[I", .constantLong RX2 197 (1000), .constantLong RX2 110 (1000000), .fieldLink RX2 25 "SongOffice$Ledger" "kept" "[J", .methodLink RX2 147 Lib.MathLoose.min_long.x, .static Lib.MathLoose.min_long.x, .initialized "java/lang/Math", .code Lib.MathLoose.min_long.x Lib.MathLoose.min_long.code 4 (some .long), .fieldLink RX2 226 "SongOffice$BargainBook" "y" "[I", .fieldLink RX2 28 "SongOffice$Ledger" "came" "[J", .methodLink RX2 229 Lib.MathLoose.max_long.x, .static Lib.MathLoose.max_long.x, .code Lib.MathLoose.max_long.x Lib.MathLoose.max_long.code 4 (some .long), .fieldLink RX2 232 "SongOffice$BargainBook" "z" "[I"] ++ wsX20 ++ wsX00)
def wsX3_end : List Cond := .code yX3_end cX3_end 4 none :: ([.fieldLink RX3 13 "SongOffice$LineBook" "room" "I", .fieldLink RX3 33 "SongOffice$LineBook" "ended" "[J"] ++ wsX30)
def wsX2_runLine_r1 : List Cond := [Cond.fieldLink RX2 61 "SongOffice$Ledger" "lines" "LSongOffice$LineBook;", Cond.fieldLink RX2 45 "SongOffice$Ledger" "bargains" "LSongOffice$BargainBook;", Cond.fieldLink RX2 142 "SongOffice$BargainBook" "size" "I", Cond.fieldLink RX2 116 "SongOffice$BargainBook" "kinds" "[I", Cond.fieldLink RX2 28 "SongOffice$Ledger" "came" "[J", Cond.fieldLink RX2 25 "SongOffice$Ledger" "kept" "[J", Cond.fieldLink RX2 31 "SongOffice$Ledger" "bags" "[J", Cond.fieldLink RX2 78 "SongOffice$Ledger" "closed" "I", Cond.fieldLink RX2 220 "SongOffice$BargainBook" "takers" "[I", Cond.fieldLink RX2 9 "SongOffice$Ledger" "purse" "[J", Cond.methodLink RX2 204 yX3_begin, Cond.instanceMethod yX3_begin, Cond.selects RX3 yX3_begin yX3_begin, Cond.initialized RX3, Cond.code yX3_begin cX3_begin 7 (some .int), Cond.fieldLink RX3 36 "SongOffice$LineBook" "size" "I", Cond.fieldLink RX3 13 "SongOffice$LineBook" "room" "I", Cond.fieldLink RX3 19 "SongOffice$LineBook" "work" "[I", Cond.fieldLink RX3 23 "SongOffice$LineBook" "owner" "[I", Cond.fieldLink RX3 26 "SongOffice$LineBook" "from" "[I", Cond.fieldLink RX3 29 "SongOffice$LineBook" "began" "[J", Cond.static yX7_passesOn, Cond.initialized RX7, Cond.code yX7_passesOn cX7_passesOn 1 (some .boolean)]
def wsX2_runLine_r2 : List Cond := [Cond.methodLink RX2 185 yX2_lastDay, Cond.instanceMethod yX2_lastDay, Cond.selects RX2 yX2_lastDay yX2_lastDay, Cond.initialized RX2, Cond.code yX2_lastDay cX2_lastDay 1 (some .int), Cond.methodLink RX2 212 yX0_holdsFor, Cond.instanceMethod yX0_holdsFor, Cond.selects RX0 yX0_holdsFor yX0_holdsFor, Cond.initialized RX0, Cond.code yX0_holdsFor cX0_holdsFor 5 (some .boolean), Cond.fieldLink RX0 15 "SongOffice$BargainBook" "hands" "[I", Cond.fieldLink RX0 18 "SongOffice$BargainBook" "works" "[I", Cond.fieldLink RX0 21 "SongOffice$BargainBook" "days" "[I", Cond.methodLink RX2 216 yX2_takenBy, Cond.instanceMethod yX2_takenBy, Cond.selects RX2 yX2_takenBy yX2_takenBy, Cond.code yX2_takenBy cX2_takenBy 8 (some .long), Cond.fieldLink RX2 121 "SongOffice$BargainBook" "x" "[I", Cond.constantLong RX2 197 (1000), Cond.constantLong RX2 110 (1000000), Cond.methodLink RX2 147 Lib.MathLoose.min_long.x, Cond.static Lib.MathLoose.min_long.x, Cond.initialized "java/lang/Math", Cond.code Lib.MathLoose.min_long.x Lib.MathLoose.min_long.code 4 (some .long)]
def wsX2_runLine_r3 : List Cond := [Cond.fieldLink RX2 226 "SongOffice$BargainBook" "y" "[I", Cond.methodLink RX2 229 Lib.MathLoose.max_long.x, Cond.static Lib.MathLoose.max_long.x, Cond.code Lib.MathLoose.max_long.x Lib.MathLoose.max_long.code 4 (some .long), Cond.fieldLink RX2 232 "SongOffice$BargainBook" "z" "[I", Cond.methodLink RX2 200 yX2_runLine, Cond.instanceMethod yX2_runLine, Cond.selects RX2 yX2_runLine yX2_runLine, Cond.methodLink RX2 223 yX3_end, Cond.instanceMethod yX3_end, Cond.selects RX3 yX3_end yX3_end, Cond.code yX3_end cX3_end 4 none, Cond.fieldLink RX3 33 "SongOffice$LineBook" "ended" "[J"]
def wsX2_runLine : List Cond := .code yX2_runLine cX2_runLine 15 none :: ((wsX2_runLine_r1 ++ (wsX2_runLine_r2 ++ wsX2_runLine_r3)) ++ wsX20 ++ wsX00 ++ wsX30)
def wsX2_bringIn_r1 : List Cond := [Cond.fieldLink RX2 50 "SongOffice$Ledger" "reports" "LSongOffice$ReportBook;", Cond.fieldLink RX2 78 "SongOffice$Ledger" "closed" "I", Cond.fieldLink RX2 40 "SongOffice$Ledger" "shares" "LSongOffice$ShareBook;", Cond.fieldLink RX2 74 "SongOffice$Ledger" "cameIn" "J", Cond.constantLong RX2 110 (1000000), Cond.fieldLink RX2 194 "SongOffice$ShareBook" "parts" "[I", Cond.constantLong RX2 197 (1000), Cond.fieldLink RX2 199 "SongOffice$ShareBook" "hands" "[I", Cond.methodLink RX2 178 yX4_wayOf, Cond.instanceMethod yX4_wayOf, Cond.selects RX4 yX4_wayOf yX4_wayOf, Cond.initialized RX4, Cond.code yX4_wayOf cX4_wayOf 3 (some .int), Cond.fieldLink RX4 15 "SongOffice$ReportBook" "ways" "[I", Cond.methodLink RX2 181 yX4_coinsOf, Cond.instanceMethod yX4_coinsOf, Cond.selects RX4 yX4_coinsOf yX4_coinsOf, Cond.code yX4_coinsOf cX4_coinsOf 4 (some .int), Cond.fieldLink RX4 9 "SongOffice$ReportBook" "coins" "[I", Cond.methodLink RX2 185 yX2_lastDay, Cond.instanceMethod yX2_lastDay, Cond.selects RX2 yX2_lastDay yX2_lastDay, Cond.initialized RX2, Cond.code yX2_lastDay cX2_lastDay 1 (some .int)]
def wsX2_bringIn_r2 : List Cond := [Cond.methodLink RX2 189 yX6_setAt, Cond.instanceMethod yX6_setAt, Cond.selects RX6 yX6_setAt yX6_setAt, Cond.initialized RX6, Cond.code yX6_setAt cX6_setAt 5 (some .int), Cond.fieldLink RX6 9 "SongOffice$ShareBook" "sets" "[I", Cond.fieldLink RX6 15 "SongOffice$ShareBook" "days" "[I", Cond.methodLink RX2 200 yX2_runLine, Cond.instanceMethod yX2_runLine, Cond.selects RX2 yX2_runLine yX2_runLine, Cond.code yX2_runLine cX2_runLine 15 none, Cond.fieldLink RX2 61 "SongOffice$Ledger" "lines" "LSongOffice$LineBook;", Cond.fieldLink RX2 45 "SongOffice$Ledger" "bargains" "LSongOffice$BargainBook;", Cond.fieldLink RX2 142 "SongOffice$BargainBook" "size" "I", Cond.fieldLink RX2 116 "SongOffice$BargainBook" "kinds" "[I", Cond.fieldLink RX2 28 "SongOffice$Ledger" "came" "[J", Cond.fieldLink RX2 25 "SongOffice$Ledger" "kept" "[J", Cond.fieldLink RX2 31 "SongOffice$Ledger" "bags" "[J", Cond.fieldLink RX2 220 "SongOffice$BargainBook" "takers" "[I", Cond.fieldLink RX2 9 "SongOffice$Ledger" "purse" "[J", Cond.methodLink RX2 204 yX3_begin, Cond.instanceMethod yX3_begin, Cond.selects RX3 yX3_begin yX3_begin, Cond.initialized RX3]
def wsX2_bringIn_r3 : List Cond := [Cond.code yX3_begin cX3_begin 7 (some .int), Cond.fieldLink RX3 36 "SongOffice$LineBook" "size" "I", Cond.fieldLink RX3 13 "SongOffice$LineBook" "room" "I", Cond.fieldLink RX3 19 "SongOffice$LineBook" "work" "[I", Cond.fieldLink RX3 23 "SongOffice$LineBook" "owner" "[I", Cond.fieldLink RX3 26 "SongOffice$LineBook" "from" "[I", Cond.fieldLink RX3 29 "SongOffice$LineBook" "began" "[J", Cond.static yX7_passesOn, Cond.initialized RX7, Cond.code yX7_passesOn cX7_passesOn 1 (some .boolean), Cond.methodLink RX2 212 yX0_holdsFor, Cond.instanceMethod yX0_holdsFor, Cond.selects RX0 yX0_holdsFor yX0_holdsFor, Cond.initialized RX0, Cond.code yX0_holdsFor cX0_holdsFor 5 (some .boolean), Cond.fieldLink RX0 15 "SongOffice$BargainBook" "hands" "[I", Cond.fieldLink RX0 18 "SongOffice$BargainBook" "works" "[I", Cond.fieldLink RX0 21 "SongOffice$BargainBook" "days" "[I", Cond.methodLink RX2 216 yX2_takenBy, Cond.instanceMethod yX2_takenBy, Cond.selects RX2 yX2_takenBy yX2_takenBy, Cond.code yX2_takenBy cX2_takenBy 8 (some .long), Cond.fieldLink RX2 121 "SongOffice$BargainBook" "x" "[I", Cond.methodLink RX2 147 Lib.MathLoose.min_long.x]
def wsX2_bringIn_r4 : List Cond := [Cond.static Lib.MathLoose.min_long.x, Cond.initialized "java/lang/Math", Cond.code Lib.MathLoose.min_long.x Lib.MathLoose.min_long.code 4 (some .long), Cond.fieldLink RX2 226 "SongOffice$BargainBook" "y" "[I", Cond.methodLink RX2 229 Lib.MathLoose.max_long.x, Cond.static Lib.MathLoose.max_long.x, Cond.code Lib.MathLoose.max_long.x Lib.MathLoose.max_long.code 4 (some .long), Cond.fieldLink RX2 232 "SongOffice$BargainBook" "z" "[I", Cond.methodLink RX2 223 yX3_end, Cond.instanceMethod yX3_end, Cond.selects RX3 yX3_end yX3_end, Cond.code yX3_end cX3_end 4 none, Cond.fieldLink RX3 33 "SongOffice$LineBook" "ended" "[J"]
def wsX2_bringIn : List Cond := .code yX2_bringIn cX2_bringIn 10 none :: ((wsX2_bringIn_r1 ++ (wsX2_bringIn_r2 ++ (wsX2_bringIn_r3 ++ wsX2_bringIn_r4))) ++ wsX20 ++ wsX60 ++ wsX40 ++ wsX00 ++ wsX30)
def wsX2_emptyOldBags : List Cond := .code yX2_emptyOldBags cX2_emptyOldBags 3 none :: ([.fieldLink RX2 45 "SongOffice$Ledger" "bargains" "LSongOffice$BargainBook;", .fieldLink RX2 142 "SongOffice$BargainBook" "size" "I", .fieldLink RX2 116 "SongOffice$BargainBook" "kinds" "[I", .fieldLink RX2 78 "SongOffice$Ledger" "closed" "I", .fieldLink RX2 226 "SongOffice$BargainBook" "y" "[I", .fieldLink RX2 9 "SongOffice$Ledger" "purse" "[J", .fieldLink RX2 235 "SongOffice$BargainBook" "hands" "[I", .fieldLink RX2 31 "SongOffice$Ledger" "bags" "[J"] ++ wsX20 ++ wsX00)
def wsX2_payHands : List Cond := .code yX2_payHands cX2_payHands 4 none :: ([.fieldLink RX2 15 "SongOffice$Ledger" "debt" "[J", .fieldLink RX2 9 "SongOffice$Ledger" "purse" "[J", .methodLink RX2 147 Lib.MathLoose.min_long.x, .static Lib.MathLoose.min_long.x, .initialized "java/lang/Math", .code Lib.MathLoose.min_long.x Lib.MathLoose.min_long.code 4 (some .long), .constantLong RX2 110 (1000000), .methodLink RX2 229 Lib.MathLoose.max_long.x, .static Lib.MathLoose.max_long.x, .code Lib.MathLoose.max_long.x Lib.MathLoose.max_long.code 4 (some .long), .fieldLink RX2 21 "SongOffice$Ledger" "dues" "[I", .fieldLink RX2 78 "SongOffice$Ledger" "closed" "I"] ++ wsX20)
def wsX2_duesOf : List Cond := .code yX2_duesOf cX2_duesOf 7 (some .long) :: ([.fieldLink RX2 21 "SongOffice$Ledger" "dues" "[I"] ++ wsX20)
def wsX2_fillFloors : List Cond := .code yX2_fillFloors cX2_fillFloors 7 none :: ([.fieldLink RX2 45 "SongOffice$Ledger" "bargains" "LSongOffice$BargainBook;", .fieldLink RX2 142 "SongOffice$BargainBook" "size" "I", .fieldLink RX2 116 "SongOffice$BargainBook" "kinds" "[I", .fieldLink RX2 236 "SongOffice$BargainBook" "days" "[I", .fieldLink RX2 235 "SongOffice$BargainBook" "hands" "[I", .fieldLink RX2 78 "SongOffice$Ledger" "closed" "I", .fieldLink RX2 121 "SongOffice$BargainBook" "x" "[I", .methodLink RX2 229 Lib.MathLoose.max_long.x, .static Lib.MathLoose.max_long.x, .initialized "java/lang/Math", .code Lib.MathLoose.max_long.x Lib.MathLoose.max_long.code 4 (some .long), .fieldLink RX2 21 "SongOffice$Ledger" "dues" "[I", .fieldLink RX2 18 "SongOffice$Ledger" "filled" "[J", .methodLink RX2 185 yX2_lastDay, .instanceMethod yX2_lastDay, .selects RX2 yX2_lastDay yX2_lastDay, .initialized RX2, .code yX2_lastDay cX2_lastDay 1 (some .int), .methodLink RX2 112 yX2_duesOf, .instanceMethod yX2_duesOf, .selects RX2 yX2_duesOf yX2_duesOf, .code yX2_duesOf cX2_duesOf 7 (some .long)] ++ wsX20 ++ wsX00)
def wsX2_closeTerm_r1 : List Cond := [Cond.fieldLink RX2 61 "SongOffice$Ledger" "lines" "LSongOffice$LineBook;", Cond.fieldLink RX2 153 "SongOffice$LineBook" "size" "I", Cond.fieldLink RX2 50 "SongOffice$Ledger" "reports" "LSongOffice$ReportBook;", Cond.fieldLink RX2 78 "SongOffice$Ledger" "closed" "I", Cond.methodLink RX2 154 yX4_sizeOf, Cond.instanceMethod yX4_sizeOf, Cond.selects RX4 yX4_sizeOf yX4_sizeOf, Cond.initialized RX4, Cond.code yX4_sizeOf cX4_sizeOf 2 (some .int), Cond.fieldLink RX4 24 "SongOffice$ReportBook" "sizes" "[I", Cond.methodLink RX2 160 yX4_workAt, Cond.instanceMethod yX4_workAt, Cond.selects RX4 yX4_workAt yX4_workAt, Cond.code yX4_workAt cX4_workAt 3 (some .int), Cond.fieldLink RX4 21 "SongOffice$ReportBook" "order" "[I", Cond.methodLink RX2 163 yX4_isOpen, Cond.instanceMethod yX4_isOpen, Cond.selects RX4 yX4_isOpen yX4_isOpen, Cond.code yX4_isOpen cX4_isOpen 3 (some .boolean), Cond.fieldLink RX4 27 "SongOffice$ReportBook" "openWorks" "[I", Cond.methodLink RX2 166 yX2_bringIn, Cond.instanceMethod yX2_bringIn, Cond.selects RX2 yX2_bringIn yX2_bringIn, Cond.initialized RX2]
def wsX2_closeTerm_r2 : List Cond := [Cond.code yX2_bringIn cX2_bringIn 10 none, Cond.fieldLink RX2 40 "SongOffice$Ledger" "shares" "LSongOffice$ShareBook;", Cond.fieldLink RX2 74 "SongOffice$Ledger" "cameIn" "J", Cond.constantLong RX2 110 (1000000), Cond.fieldLink RX2 194 "SongOffice$ShareBook" "parts" "[I", Cond.constantLong RX2 197 (1000), Cond.fieldLink RX2 199 "SongOffice$ShareBook" "hands" "[I", Cond.methodLink RX2 178 yX4_wayOf, Cond.instanceMethod yX4_wayOf, Cond.selects RX4 yX4_wayOf yX4_wayOf, Cond.code yX4_wayOf cX4_wayOf 3 (some .int), Cond.fieldLink RX4 15 "SongOffice$ReportBook" "ways" "[I", Cond.methodLink RX2 181 yX4_coinsOf, Cond.instanceMethod yX4_coinsOf, Cond.selects RX4 yX4_coinsOf yX4_coinsOf, Cond.code yX4_coinsOf cX4_coinsOf 4 (some .int), Cond.fieldLink RX4 9 "SongOffice$ReportBook" "coins" "[I", Cond.methodLink RX2 185 yX2_lastDay, Cond.instanceMethod yX2_lastDay, Cond.selects RX2 yX2_lastDay yX2_lastDay, Cond.code yX2_lastDay cX2_lastDay 1 (some .int), Cond.methodLink RX2 189 yX6_setAt, Cond.instanceMethod yX6_setAt, Cond.selects RX6 yX6_setAt yX6_setAt]
def wsX2_closeTerm_r3 : List Cond := [Cond.initialized RX6, Cond.code yX6_setAt cX6_setAt 5 (some .int), Cond.fieldLink RX6 9 "SongOffice$ShareBook" "sets" "[I", Cond.fieldLink RX6 15 "SongOffice$ShareBook" "days" "[I", Cond.methodLink RX2 200 yX2_runLine, Cond.instanceMethod yX2_runLine, Cond.selects RX2 yX2_runLine yX2_runLine, Cond.code yX2_runLine cX2_runLine 15 none, Cond.fieldLink RX2 45 "SongOffice$Ledger" "bargains" "LSongOffice$BargainBook;", Cond.fieldLink RX2 142 "SongOffice$BargainBook" "size" "I", Cond.fieldLink RX2 116 "SongOffice$BargainBook" "kinds" "[I", Cond.fieldLink RX2 28 "SongOffice$Ledger" "came" "[J", Cond.fieldLink RX2 25 "SongOffice$Ledger" "kept" "[J", Cond.fieldLink RX2 31 "SongOffice$Ledger" "bags" "[J", Cond.fieldLink RX2 220 "SongOffice$BargainBook" "takers" "[I", Cond.fieldLink RX2 9 "SongOffice$Ledger" "purse" "[J", Cond.methodLink RX2 204 yX3_begin, Cond.instanceMethod yX3_begin, Cond.selects RX3 yX3_begin yX3_begin, Cond.initialized RX3, Cond.code yX3_begin cX3_begin 7 (some .int), Cond.fieldLink RX3 36 "SongOffice$LineBook" "size" "I", Cond.fieldLink RX3 13 "SongOffice$LineBook" "room" "I", Cond.fieldLink RX3 19 "SongOffice$LineBook" "work" "[I"]
def wsX2_closeTerm_r4 : List Cond := [Cond.fieldLink RX3 23 "SongOffice$LineBook" "owner" "[I", Cond.fieldLink RX3 26 "SongOffice$LineBook" "from" "[I", Cond.fieldLink RX3 29 "SongOffice$LineBook" "began" "[J", Cond.static yX7_passesOn, Cond.initialized RX7, Cond.code yX7_passesOn cX7_passesOn 1 (some .boolean), Cond.methodLink RX2 212 yX0_holdsFor, Cond.instanceMethod yX0_holdsFor, Cond.selects RX0 yX0_holdsFor yX0_holdsFor, Cond.initialized RX0, Cond.code yX0_holdsFor cX0_holdsFor 5 (some .boolean), Cond.fieldLink RX0 15 "SongOffice$BargainBook" "hands" "[I", Cond.fieldLink RX0 18 "SongOffice$BargainBook" "works" "[I", Cond.fieldLink RX0 21 "SongOffice$BargainBook" "days" "[I", Cond.methodLink RX2 216 yX2_takenBy, Cond.instanceMethod yX2_takenBy, Cond.selects RX2 yX2_takenBy yX2_takenBy, Cond.code yX2_takenBy cX2_takenBy 8 (some .long), Cond.fieldLink RX2 121 "SongOffice$BargainBook" "x" "[I", Cond.methodLink RX2 147 Lib.MathLoose.min_long.x, Cond.static Lib.MathLoose.min_long.x, Cond.initialized "java/lang/Math", Cond.code Lib.MathLoose.min_long.x Lib.MathLoose.min_long.code 4 (some .long), Cond.fieldLink RX2 226 "SongOffice$BargainBook" "y" "[I"]
def wsX2_closeTerm_r5 : List Cond := [Cond.methodLink RX2 229 Lib.MathLoose.max_long.x, Cond.static Lib.MathLoose.max_long.x, Cond.code Lib.MathLoose.max_long.x Lib.MathLoose.max_long.code 4 (some .long), Cond.fieldLink RX2 232 "SongOffice$BargainBook" "z" "[I", Cond.methodLink RX2 223 yX3_end, Cond.instanceMethod yX3_end, Cond.selects RX3 yX3_end yX3_end, Cond.code yX3_end cX3_end 4 none, Cond.fieldLink RX3 33 "SongOffice$LineBook" "ended" "[J", Cond.methodLink RX2 169 yX2_emptyOldBags, Cond.instanceMethod yX2_emptyOldBags, Cond.selects RX2 yX2_emptyOldBags yX2_emptyOldBags, Cond.code yX2_emptyOldBags cX2_emptyOldBags 3 none, Cond.fieldLink RX2 235 "SongOffice$BargainBook" "hands" "[I", Cond.methodLink RX2 172 yX2_payHands, Cond.instanceMethod yX2_payHands, Cond.selects RX2 yX2_payHands yX2_payHands, Cond.code yX2_payHands cX2_payHands 4 none, Cond.fieldLink RX2 15 "SongOffice$Ledger" "debt" "[J", Cond.fieldLink RX2 21 "SongOffice$Ledger" "dues" "[I", Cond.methodLink RX2 175 yX2_fillFloors, Cond.instanceMethod yX2_fillFloors, Cond.selects RX2 yX2_fillFloors yX2_fillFloors, Cond.code yX2_fillFloors cX2_fillFloors 7 none]
def wsX2_closeTerm_r6 : List Cond := [Cond.fieldLink RX2 236 "SongOffice$BargainBook" "days" "[I", Cond.fieldLink RX2 18 "SongOffice$Ledger" "filled" "[J", Cond.methodLink RX2 112 yX2_duesOf, Cond.instanceMethod yX2_duesOf, Cond.selects RX2 yX2_duesOf yX2_duesOf, Cond.code yX2_duesOf cX2_duesOf 7 (some .long)]
def wsX2_closeTerm : List Cond := .code yX2_closeTerm cX2_closeTerm 3 none :: ((wsX2_closeTerm_r1 ++ (wsX2_closeTerm_r2 ++ (wsX2_closeTerm_r3 ++ (wsX2_closeTerm_r4 ++ (wsX2_closeTerm_r5 ++ wsX2_closeTerm_r6))))) ++ wsX20 ++ wsX30 ++ wsX40 ++ wsX60 ++ wsX00)
def wsX2_reckonTo_r1 : List Cond := [Cond.methodLink RX2 85 Lib.Math.min.name, Cond.static Lib.Math.min.name, Cond.initialized "java/lang/Math", Cond.code Lib.Math.min.name Lib.Math.min.code 2 (some .int), Cond.fieldLink RX2 78 "SongOffice$Ledger" "closed" "I", Cond.methodLink RX2 91 yX2_takeSentOf, Cond.instanceMethod yX2_takeSentOf, Cond.selects RX2 yX2_takeSentOf yX2_takeSentOf, Cond.initialized RX2, Cond.code yX2_takeSentOf cX2_takeSentOf 2 none, Cond.fieldLink RX2 82 "SongOffice$Ledger" "sentTaken" "I", Cond.fieldLink RX2 55 "SongOffice$Ledger" "sentBack" "LSongOffice$SentBook;", Cond.fieldLink RX2 124 "SongOffice$SentBook" "size" "I", Cond.fieldLink RX2 129 "SongOffice$SentBook" "terms" "[I", Cond.fieldLink RX2 132 "SongOffice$SentBook" "hands" "[I", Cond.fieldLink RX2 135 "SongOffice$SentBook" "coins" "[I", Cond.constantLong RX2 110 (1000000), Cond.methodLink RX2 138 yX2_takeSent, Cond.instanceMethod yX2_takeSent, Cond.selects RX2 yX2_takeSent yX2_takeSent, Cond.code yX2_takeSent cX2_takeSent 10 none, Cond.fieldLink RX2 45 "SongOffice$Ledger" "bargains" "LSongOffice$BargainBook;", Cond.fieldLink RX2 142 "SongOffice$BargainBook" "size" "I", Cond.fieldLink RX2 31 "SongOffice$Ledger" "bags" "[J"]
def wsX2_reckonTo_r2 : List Cond := [Cond.methodLink RX2 147 Lib.MathLoose.min_long.x, Cond.static Lib.MathLoose.min_long.x, Cond.code Lib.MathLoose.min_long.x Lib.MathLoose.min_long.code 4 (some .long), Cond.fieldLink RX2 15 "SongOffice$Ledger" "debt" "[J", Cond.fieldLink RX2 150 "SongOffice$Ledger" "lacked" "J", Cond.methodLink RX2 143 yX0_isReserveOf, Cond.instanceMethod yX0_isReserveOf, Cond.selects RX0 yX0_isReserveOf yX0_isReserveOf, Cond.initialized RX0, Cond.code yX0_isReserveOf cX0_isReserveOf 3 (some .boolean), Cond.fieldLink RX0 9 "SongOffice$BargainBook" "kinds" "[I", Cond.fieldLink RX0 15 "SongOffice$BargainBook" "hands" "[I", Cond.methodLink RX2 94 yX2_closeTerm, Cond.instanceMethod yX2_closeTerm, Cond.selects RX2 yX2_closeTerm yX2_closeTerm, Cond.code yX2_closeTerm cX2_closeTerm 3 none, Cond.fieldLink RX2 61 "SongOffice$Ledger" "lines" "LSongOffice$LineBook;", Cond.fieldLink RX2 153 "SongOffice$LineBook" "size" "I", Cond.fieldLink RX2 50 "SongOffice$Ledger" "reports" "LSongOffice$ReportBook;", Cond.methodLink RX2 154 yX4_sizeOf, Cond.instanceMethod yX4_sizeOf, Cond.selects RX4 yX4_sizeOf yX4_sizeOf, Cond.initialized RX4, Cond.code yX4_sizeOf cX4_sizeOf 2 (some .int)]
def wsX2_reckonTo_r3 : List Cond := [Cond.fieldLink RX4 24 "SongOffice$ReportBook" "sizes" "[I", Cond.methodLink RX2 160 yX4_workAt, Cond.instanceMethod yX4_workAt, Cond.selects RX4 yX4_workAt yX4_workAt, Cond.code yX4_workAt cX4_workAt 3 (some .int), Cond.fieldLink RX4 21 "SongOffice$ReportBook" "order" "[I", Cond.methodLink RX2 163 yX4_isOpen, Cond.instanceMethod yX4_isOpen, Cond.selects RX4 yX4_isOpen yX4_isOpen, Cond.code yX4_isOpen cX4_isOpen 3 (some .boolean), Cond.fieldLink RX4 27 "SongOffice$ReportBook" "openWorks" "[I", Cond.methodLink RX2 166 yX2_bringIn, Cond.instanceMethod yX2_bringIn, Cond.selects RX2 yX2_bringIn yX2_bringIn, Cond.code yX2_bringIn cX2_bringIn 10 none, Cond.fieldLink RX2 40 "SongOffice$Ledger" "shares" "LSongOffice$ShareBook;", Cond.fieldLink RX2 74 "SongOffice$Ledger" "cameIn" "J", Cond.fieldLink RX2 194 "SongOffice$ShareBook" "parts" "[I", Cond.constantLong RX2 197 (1000), Cond.fieldLink RX2 199 "SongOffice$ShareBook" "hands" "[I", Cond.methodLink RX2 178 yX4_wayOf, Cond.instanceMethod yX4_wayOf, Cond.selects RX4 yX4_wayOf yX4_wayOf, Cond.code yX4_wayOf cX4_wayOf 3 (some .int)]
def wsX2_reckonTo_r4 : List Cond := [Cond.fieldLink RX4 15 "SongOffice$ReportBook" "ways" "[I", Cond.methodLink RX2 181 yX4_coinsOf, Cond.instanceMethod yX4_coinsOf, Cond.selects RX4 yX4_coinsOf yX4_coinsOf, Cond.code yX4_coinsOf cX4_coinsOf 4 (some .int), Cond.fieldLink RX4 9 "SongOffice$ReportBook" "coins" "[I", Cond.methodLink RX2 185 yX2_lastDay, Cond.instanceMethod yX2_lastDay, Cond.selects RX2 yX2_lastDay yX2_lastDay, Cond.code yX2_lastDay cX2_lastDay 1 (some .int), Cond.methodLink RX2 189 yX6_setAt, Cond.instanceMethod yX6_setAt, Cond.selects RX6 yX6_setAt yX6_setAt, Cond.initialized RX6, Cond.code yX6_setAt cX6_setAt 5 (some .int), Cond.fieldLink RX6 9 "SongOffice$ShareBook" "sets" "[I", Cond.fieldLink RX6 15 "SongOffice$ShareBook" "days" "[I", Cond.methodLink RX2 200 yX2_runLine, Cond.instanceMethod yX2_runLine, Cond.selects RX2 yX2_runLine yX2_runLine, Cond.code yX2_runLine cX2_runLine 15 none, Cond.fieldLink RX2 116 "SongOffice$BargainBook" "kinds" "[I", Cond.fieldLink RX2 28 "SongOffice$Ledger" "came" "[J", Cond.fieldLink RX2 25 "SongOffice$Ledger" "kept" "[J"]
def wsX2_reckonTo_r5 : List Cond := [Cond.fieldLink RX2 220 "SongOffice$BargainBook" "takers" "[I", Cond.fieldLink RX2 9 "SongOffice$Ledger" "purse" "[J", Cond.methodLink RX2 204 yX3_begin, Cond.instanceMethod yX3_begin, Cond.selects RX3 yX3_begin yX3_begin, Cond.initialized RX3, Cond.code yX3_begin cX3_begin 7 (some .int), Cond.fieldLink RX3 36 "SongOffice$LineBook" "size" "I", Cond.fieldLink RX3 13 "SongOffice$LineBook" "room" "I", Cond.fieldLink RX3 19 "SongOffice$LineBook" "work" "[I", Cond.fieldLink RX3 23 "SongOffice$LineBook" "owner" "[I", Cond.fieldLink RX3 26 "SongOffice$LineBook" "from" "[I", Cond.fieldLink RX3 29 "SongOffice$LineBook" "began" "[J", Cond.static yX7_passesOn, Cond.initialized RX7, Cond.code yX7_passesOn cX7_passesOn 1 (some .boolean), Cond.methodLink RX2 212 yX0_holdsFor, Cond.instanceMethod yX0_holdsFor, Cond.selects RX0 yX0_holdsFor yX0_holdsFor, Cond.code yX0_holdsFor cX0_holdsFor 5 (some .boolean), Cond.fieldLink RX0 18 "SongOffice$BargainBook" "works" "[I", Cond.fieldLink RX0 21 "SongOffice$BargainBook" "days" "[I", Cond.methodLink RX2 216 yX2_takenBy, Cond.instanceMethod yX2_takenBy]
def wsX2_reckonTo_r6 : List Cond := [Cond.selects RX2 yX2_takenBy yX2_takenBy, Cond.code yX2_takenBy cX2_takenBy 8 (some .long), Cond.fieldLink RX2 121 "SongOffice$BargainBook" "x" "[I", Cond.fieldLink RX2 226 "SongOffice$BargainBook" "y" "[I", Cond.methodLink RX2 229 Lib.MathLoose.max_long.x, Cond.static Lib.MathLoose.max_long.x, Cond.code Lib.MathLoose.max_long.x Lib.MathLoose.max_long.code 4 (some .long), Cond.fieldLink RX2 232 "SongOffice$BargainBook" "z" "[I", Cond.methodLink RX2 223 yX3_end, Cond.instanceMethod yX3_end, Cond.selects RX3 yX3_end yX3_end, Cond.code yX3_end cX3_end 4 none, Cond.fieldLink RX3 33 "SongOffice$LineBook" "ended" "[J", Cond.methodLink RX2 169 yX2_emptyOldBags, Cond.instanceMethod yX2_emptyOldBags, Cond.selects RX2 yX2_emptyOldBags yX2_emptyOldBags, Cond.code yX2_emptyOldBags cX2_emptyOldBags 3 none, Cond.fieldLink RX2 235 "SongOffice$BargainBook" "hands" "[I", Cond.methodLink RX2 172 yX2_payHands, Cond.instanceMethod yX2_payHands, Cond.selects RX2 yX2_payHands yX2_payHands, Cond.code yX2_payHands cX2_payHands 4 none, Cond.fieldLink RX2 21 "SongOffice$Ledger" "dues" "[I", Cond.methodLink RX2 175 yX2_fillFloors]
def wsX2_reckonTo_r7 : List Cond := [Cond.instanceMethod yX2_fillFloors, Cond.selects RX2 yX2_fillFloors yX2_fillFloors, Cond.code yX2_fillFloors cX2_fillFloors 7 none, Cond.fieldLink RX2 236 "SongOffice$BargainBook" "days" "[I", Cond.fieldLink RX2 18 "SongOffice$Ledger" "filled" "[J", Cond.methodLink RX2 112 yX2_duesOf, Cond.instanceMethod yX2_duesOf, Cond.selects RX2 yX2_duesOf yX2_duesOf, Cond.code yX2_duesOf cX2_duesOf 7 (some .long)]
def wsX2_reckonTo : List Cond := .code yX2_reckonTo cX2_reckonTo 4 none :: ((wsX2_reckonTo_r1 ++ (wsX2_reckonTo_r2 ++ (wsX2_reckonTo_r3 ++ (wsX2_reckonTo_r4 ++ (wsX2_reckonTo_r5 ++ (wsX2_reckonTo_r6 ++ wsX2_reckonTo_r7)))))) ++ wsX20 ++ wsX50 ++ wsX00 ++ wsX30 ++ wsX40 ++ wsX60)
def wsX2_allDues : List Cond := .code yX2_allDues cX2_allDues 2 (some .long) :: ([.fieldLink RX2 78 "SongOffice$Ledger" "closed" "I", .methodLink RX2 112 yX2_duesOf, .instanceMethod yX2_duesOf, .selects RX2 yX2_duesOf yX2_duesOf, .initialized RX2, .code yX2_duesOf cX2_duesOf 7 (some .long), .fieldLink RX2 21 "SongOffice$Ledger" "dues" "[I"] ++ wsX20)
def wsX2_worth : List Cond := .code yX2_worth cX2_worth 2 (some .long) :: ([.constantLong RX2 110 (1000000), .fieldLink RX2 9 "SongOffice$Ledger" "purse" "[J", .fieldLink RX2 15 "SongOffice$Ledger" "debt" "[J", .methodLink RX2 107 yX2_allDues, .instanceMethod yX2_allDues, .selects RX2 yX2_allDues yX2_allDues, .initialized RX2, .code yX2_allDues cX2_allDues 2 (some .long), .fieldLink RX2 78 "SongOffice$Ledger" "closed" "I", .methodLink RX2 112 yX2_duesOf, .instanceMethod yX2_duesOf, .selects RX2 yX2_duesOf yX2_duesOf, .code yX2_duesOf cX2_duesOf 7 (some .long), .fieldLink RX2 21 "SongOffice$Ledger" "dues" "[I"] ++ wsX20)
def wsX2_becomeLike_r1 : List Cond := [Cond.fieldLink RX2 9 "SongOffice$Ledger" "purse" "[J", Cond.fieldLink RX2 15 "SongOffice$Ledger" "debt" "[J", Cond.fieldLink RX2 18 "SongOffice$Ledger" "filled" "[J", Cond.fieldLink RX2 25 "SongOffice$Ledger" "kept" "[J", Cond.methodLink RX2 101 arraycopyName, Cond.native arraycopyName, Cond.static arraycopyName, Cond.initialized "java/lang/System", Cond.fieldLink RX2 28 "SongOffice$Ledger" "came" "[J", Cond.fieldLink RX2 31 "SongOffice$Ledger" "bags" "[J", Cond.fieldLink RX2 74 "SongOffice$Ledger" "cameIn" "J", Cond.methodLink RX2 97 yX2_worth, Cond.instanceMethod yX2_worth, Cond.selects RX2 yX2_worth yX2_worth, Cond.initialized RX2, Cond.code yX2_worth cX2_worth 2 (some .long), Cond.constantLong RX2 110 (1000000), Cond.methodLink RX2 107 yX2_allDues, Cond.instanceMethod yX2_allDues, Cond.selects RX2 yX2_allDues yX2_allDues, Cond.code yX2_allDues cX2_allDues 2 (some .long), Cond.fieldLink RX2 78 "SongOffice$Ledger" "closed" "I", Cond.methodLink RX2 112 yX2_duesOf, Cond.instanceMethod yX2_duesOf]
def wsX2_becomeLike_r2 : List Cond := [Cond.selects RX2 yX2_duesOf yX2_duesOf, Cond.code yX2_duesOf cX2_duesOf 7 (some .long), Cond.fieldLink RX2 21 "SongOffice$Ledger" "dues" "[I"]
def wsX2_becomeLike : List Cond := .code yX2_becomeLike cX2_becomeLike 5 none :: ((wsX2_becomeLike_r1 ++ wsX2_becomeLike_r2) ++ wsX20)
def wsX2_allFilled : List Cond := .code yX2_allFilled cX2_allFilled 4 (some .long) :: ([.fieldLink RX2 18 "SongOffice$Ledger" "filled" "[J"] ++ wsX20)
def wsX2_stillIn : List Cond := .code yX2_stillIn cX2_stillIn 5 (some .long) :: ([.fieldLink RX2 45 "SongOffice$Ledger" "bargains" "LSongOffice$BargainBook;", .fieldLink RX2 116 "SongOffice$BargainBook" "kinds" "[I", .fieldLink RX2 121 "SongOffice$BargainBook" "x" "[I", .constantLong RX2 110 (1000000), .fieldLink RX2 25 "SongOffice$Ledger" "kept" "[J", .fieldLink RX2 31 "SongOffice$Ledger" "bags" "[J"] ++ wsX20 ++ wsX00)
def wsX3_kept : List Cond := .code yX3_kept cX3_kept 1 (some .int) :: ([.fieldLink RX3 36 "SongOffice$LineBook" "size" "I", .fieldLink RX3 13 "SongOffice$LineBook" "room" "I", .methodLink RX3 39 Lib.Math.min.name, .static Lib.Math.min.name, .initialized "java/lang/Math", .code Lib.Math.min.name Lib.Math.min.code 2 (some .int)] ++ wsX30)
def wsX4_init : List Cond := .code yX4_init cX4_init 1 none :: ([.methodLink RX4 3 objectInit, .instanceMethod objectInit, .code objectInit ⟨#[0xb1]⟩ 1 none, .arrayClass .int, .fieldLink RX4 9 "SongOffice$ReportBook" "coins" "[I", .fieldLink RX4 15 "SongOffice$ReportBook" "ways" "[I", .fieldLink RX4 18 "SongOffice$ReportBook" "places" "[I", .fieldLink RX4 21 "SongOffice$ReportBook" "order" "[I", .fieldLink RX4 24 "SongOffice$ReportBook" "sizes" "[I", .fieldLink RX4 27 "SongOffice$ReportBook" "openWorks" "[I"] ++ wsX40)
def wsX4_put : List Cond := .code yX4_put cX4_put 8 none :: ([.fieldLink RX4 15 "SongOffice$ReportBook" "ways" "[I", .fieldLink RX4 18 "SongOffice$ReportBook" "places" "[I", .fieldLink RX4 24 "SongOffice$ReportBook" "sizes" "[I", .fieldLink RX4 21 "SongOffice$ReportBook" "order" "[I", .fieldLink RX4 9 "SongOffice$ReportBook" "coins" "[I"] ++ wsX40)
def wsX4_tearAt : List Cond := .code yX4_tearAt cX4_tearAt 3 none :: ([.fieldLink RX4 27 "SongOffice$ReportBook" "openWorks" "[I"] ++ wsX40)
def wsJ6_bitCount_0f7a4 : List Cond := .code yJ6_bitCount_0f7a4 cJ6_bitCount_0f7a4 1 (some .int) :: ([.constant RJ6 265 (1431655765), .constant RJ6 266 (858993459), .constant RJ6 267 (252645135)])
def wsX4_tornAt : List Cond := .code yX4_tornAt cX4_tornAt 2 (some .int) :: ([.fieldLink RX4 27 "SongOffice$ReportBook" "openWorks" "[I", .methodLink RX4 30 yJ6_bitCount_0f7a4, .static yJ6_bitCount_0f7a4, .initialized RJ6, .code yJ6_bitCount_0f7a4 cJ6_bitCount_0f7a4 1 (some .int), .constant RJ6 265 (1431655765), .constant RJ6 266 (858993459), .constant RJ6 267 (252645135)] ++ wsX40)
def wsX4_bringBack : List Cond := .code yX4_bringBack cX4_bringBack 3 none :: ([.fieldLink RX4 27 "SongOffice$ReportBook" "openWorks" "[I"] ++ wsX40)
def wsX4_placeOf : List Cond := .code yX4_placeOf cX4_placeOf 4 (some .int) :: ([.fieldLink RX4 15 "SongOffice$ReportBook" "ways" "[I", .fieldLink RX4 18 "SongOffice$ReportBook" "places" "[I"] ++ wsX40)
def wsX5_init : List Cond := .code yX5_init cX5_init 1 none :: ([.methodLink RX5 3 objectInit, .instanceMethod objectInit, .code objectInit ⟨#[0xb1]⟩ 1 none, .arrayClass .int, .fieldLink RX5 9 "SongOffice$SentBook" "hands" "[I", .fieldLink RX5 15 "SongOffice$SentBook" "coins" "[I", .fieldLink RX5 18 "SongOffice$SentBook" "terms" "[I"] ++ wsX50)
def wsX5_add : List Cond := .code yX5_add cX5_add 4 none :: ([.fieldLink RX5 9 "SongOffice$SentBook" "hands" "[I", .fieldLink RX5 21 "SongOffice$SentBook" "size" "I", .fieldLink RX5 15 "SongOffice$SentBook" "coins" "[I", .fieldLink RX5 18 "SongOffice$SentBook" "terms" "[I", .fieldLink RX5 25 "SongOffice$SentBook" "coinsInAll" "J"] ++ wsX50)
def wsX6_init : List Cond := .code yX6_init cX6_init 1 none :: ([.methodLink RX6 3 objectInit, .instanceMethod objectInit, .code objectInit ⟨#[0xb1]⟩ 1 none, .arrayClass .int, .fieldLink RX6 9 "SongOffice$ShareBook" "sets" "[I", .fieldLink RX6 15 "SongOffice$ShareBook" "days" "[I", .fieldLink RX6 18 "SongOffice$ShareBook" "hands" "[I", .fieldLink RX6 21 "SongOffice$ShareBook" "parts" "[I"] ++ wsX60)
def wsX6_hasRoom : List Cond := .code yX6_hasRoom cX6_hasRoom 4 (some .boolean) :: ([.fieldLink RX6 9 "SongOffice$ShareBook" "sets" "[I", .fieldLink RX6 15 "SongOffice$ShareBook" "days" "[I"] ++ wsX60)
def wsX6_addSet : List Cond := .code yX6_addSet cX6_addSet 4 (some .int) :: ([.fieldLink RX6 9 "SongOffice$ShareBook" "sets" "[I", .fieldLink RX6 15 "SongOffice$ShareBook" "days" "[I"] ++ wsX60)
def wsX6_put : List Cond := .code yX6_put cX6_put 5 none :: ([.fieldLink RX6 18 "SongOffice$ShareBook" "hands" "[I", .fieldLink RX6 21 "SongOffice$ShareBook" "parts" "[I"] ++ wsX60)
def wsX7_init_r1 : List Cond := [Cond.methodLink RX7 1 objectInit, Cond.instanceMethod objectInit, Cond.code objectInit ⟨#[0xb1]⟩ 1 none, Cond.classLink RX7 7 RX6, Cond.instantiable RX6 4, Cond.initialized RX6, Cond.fieldLink RX7 10 "SongOffice" "shares" "LSongOffice$ShareBook;", Cond.classLink RX7 16 RX0, Cond.instantiable RX0 9, Cond.initialized RX0, Cond.fieldLink RX7 19 "SongOffice" "bargains" "LSongOffice$BargainBook;", Cond.classLink RX7 23 RX4, Cond.instantiable RX4 6, Cond.initialized RX4, Cond.fieldLink RX7 26 "SongOffice" "reports" "LSongOffice$ReportBook;", Cond.classLink RX7 30 RX5, Cond.instantiable RX5 5, Cond.initialized RX5, Cond.fieldLink RX7 33 "SongOffice" "sentBack" "LSongOffice$SentBook;", Cond.classLink RX7 37 RX1, Cond.instantiable RX1 4, Cond.initialized RX1, Cond.classLink RX7 42 RX2, Cond.instantiable RX2 16]
def wsX7_init_r2 : List Cond := [Cond.initialized RX2, Cond.fieldLink RX7 47 "SongOffice" "standing" "LSongOffice$Ledger;", Cond.fieldLink RX7 51 "SongOffice" "anew" "LSongOffice$Ledger;", Cond.instanceMethod yX6_init, Cond.code yX6_init cX6_init 1 none, Cond.methodLink RX6 3 objectInit, Cond.arrayClass .int, Cond.fieldLink RX6 9 "SongOffice$ShareBook" "sets" "[I", Cond.fieldLink RX6 15 "SongOffice$ShareBook" "days" "[I", Cond.fieldLink RX6 18 "SongOffice$ShareBook" "hands" "[I", Cond.fieldLink RX6 21 "SongOffice$ShareBook" "parts" "[I", Cond.instanceMethod yX0_init, Cond.code yX0_init cX0_init 1 none, Cond.methodLink RX0 3 objectInit, Cond.fieldLink RX0 9 "SongOffice$BargainBook" "kinds" "[I", Cond.fieldLink RX0 15 "SongOffice$BargainBook" "hands" "[I", Cond.fieldLink RX0 18 "SongOffice$BargainBook" "works" "[I", Cond.fieldLink RX0 21 "SongOffice$BargainBook" "days" "[I", Cond.fieldLink RX0 24 "SongOffice$BargainBook" "x" "[I", Cond.fieldLink RX0 27 "SongOffice$BargainBook" "y" "[I", Cond.fieldLink RX0 30 "SongOffice$BargainBook" "z" "[I", Cond.fieldLink RX0 33 "SongOffice$BargainBook" "takers" "[I", Cond.instanceMethod yX4_init, Cond.code yX4_init cX4_init 1 none]
def wsX7_init_r3 : List Cond := [Cond.methodLink RX4 3 objectInit, Cond.fieldLink RX4 9 "SongOffice$ReportBook" "coins" "[I", Cond.fieldLink RX4 15 "SongOffice$ReportBook" "ways" "[I", Cond.fieldLink RX4 18 "SongOffice$ReportBook" "places" "[I", Cond.fieldLink RX4 21 "SongOffice$ReportBook" "order" "[I", Cond.fieldLink RX4 24 "SongOffice$ReportBook" "sizes" "[I", Cond.fieldLink RX4 27 "SongOffice$ReportBook" "openWorks" "[I", Cond.instanceMethod yX5_init, Cond.code yX5_init cX5_init 1 none, Cond.methodLink RX5 3 objectInit, Cond.fieldLink RX5 9 "SongOffice$SentBook" "hands" "[I", Cond.fieldLink RX5 15 "SongOffice$SentBook" "coins" "[I", Cond.fieldLink RX5 18 "SongOffice$SentBook" "terms" "[I", Cond.methodLink RX7 39 yX1_init, Cond.instanceMethod yX1_init, Cond.code yX1_init cX1_init 5 none, Cond.methodLink RX1 1 objectInit, Cond.fieldLink RX1 7 "SongOffice$Books" "shares" "LSongOffice$ShareBook;", Cond.fieldLink RX1 13 "SongOffice$Books" "bargains" "LSongOffice$BargainBook;", Cond.fieldLink RX1 17 "SongOffice$Books" "reports" "LSongOffice$ReportBook;", Cond.fieldLink RX1 21 "SongOffice$Books" "sentBack" "LSongOffice$SentBook;", Cond.methodLink RX7 44 yX2_init, Cond.instanceMethod yX2_init, Cond.code yX2_init cX2_init 3 none]
def wsX7_init_r4 : List Cond := [Cond.methodLink RX2 3 objectInit, Cond.arrayClass .long, Cond.fieldLink RX2 9 "SongOffice$Ledger" "purse" "[J", Cond.fieldLink RX2 15 "SongOffice$Ledger" "debt" "[J", Cond.fieldLink RX2 18 "SongOffice$Ledger" "filled" "[J", Cond.fieldLink RX2 21 "SongOffice$Ledger" "dues" "[I", Cond.fieldLink RX2 25 "SongOffice$Ledger" "kept" "[J", Cond.fieldLink RX2 28 "SongOffice$Ledger" "came" "[J", Cond.fieldLink RX2 31 "SongOffice$Ledger" "bags" "[J", Cond.fieldLink RX2 34 "SongOffice$Books" "shares" "LSongOffice$ShareBook;", Cond.fieldLink RX2 40 "SongOffice$Ledger" "shares" "LSongOffice$ShareBook;", Cond.fieldLink RX2 41 "SongOffice$Books" "bargains" "LSongOffice$BargainBook;", Cond.fieldLink RX2 45 "SongOffice$Ledger" "bargains" "LSongOffice$BargainBook;", Cond.fieldLink RX2 46 "SongOffice$Books" "reports" "LSongOffice$ReportBook;", Cond.fieldLink RX2 50 "SongOffice$Ledger" "reports" "LSongOffice$ReportBook;", Cond.fieldLink RX2 51 "SongOffice$Books" "sentBack" "LSongOffice$SentBook;", Cond.fieldLink RX2 55 "SongOffice$Ledger" "sentBack" "LSongOffice$SentBook;", Cond.classLink RX2 56 RX3, Cond.instantiable RX3 7, Cond.initialized RX3, Cond.fieldLink RX2 61 "SongOffice$Ledger" "lines" "LSongOffice$LineBook;", Cond.methodLink RX2 58 yX3_init, Cond.instanceMethod yX3_init, Cond.code yX3_init cX3_init 2 none]
def wsX7_init_r5 : List Cond := [Cond.methodLink RX3 1 objectInit, Cond.methodLink RX3 7 Lib.Math.max.name, Cond.static Lib.Math.max.name, Cond.initialized "java/lang/Math", Cond.code Lib.Math.max.name Lib.Math.max.code 2 (some .int), Cond.fieldLink RX3 13 "SongOffice$LineBook" "room" "I", Cond.fieldLink RX3 19 "SongOffice$LineBook" "work" "[I", Cond.fieldLink RX3 23 "SongOffice$LineBook" "owner" "[I", Cond.fieldLink RX3 26 "SongOffice$LineBook" "from" "[I", Cond.fieldLink RX3 29 "SongOffice$LineBook" "began" "[J", Cond.fieldLink RX3 33 "SongOffice$LineBook" "ended" "[J"]
def wsX7_init : List Cond := .code yX7_init cX7_init 2 none :: ((wsX7_init_r1 ++ (wsX7_init_r2 ++ (wsX7_init_r3 ++ (wsX7_init_r4 ++ wsX7_init_r5)))) ++ wsX60 ++ wsX70 ++ wsX00 ++ wsX40 ++ wsX50 ++ wsX10 ++ wsX20 ++ wsX30)
def wsX7_isWork : List Cond := .code yX7_isWork cX7_isWork 1 (some .boolean) :: ([])
def wsX7_isDayAhead : List Cond := .code yX7_isDayAhead cX7_isDayAhead 2 (some .boolean) :: ([.fieldLink RX7 47 "SongOffice" "standing" "LSongOffice$Ledger;", .fieldLink RX7 105 "SongOffice$Ledger" "closed" "I"] ++ wsX70 ++ wsX20)
def wsX7_isHand : List Cond := .code yX7_isHand cX7_isHand 1 (some .boolean) :: ([])
def wsX7_isPart : List Cond := .code yX7_isPart cX7_isPart 1 (some .boolean) :: ([])
def wsX7_isSharer : List Cond := .code yX7_isSharer cX7_isSharer 2 (some .boolean) :: ([.methodLink RX7 65 yX7_isHand, .static yX7_isHand, .initialized RX7, .code yX7_isHand cX7_isHand 1 (some .boolean), .methodLink RX7 68 yX7_isPart, .static yX7_isPart, .code yX7_isPart cX7_isPart 1 (some .boolean)])
def wsX7_share_r1 : List Cond := [Cond.fieldLink RX7 10 "SongOffice" "shares" "LSongOffice$ShareBook;", Cond.fieldLink RX7 82 "SongOffice$ShareBook" "sets" "[I", Cond.methodLink RX7 54 yX7_isWork, Cond.static yX7_isWork, Cond.initialized RX7, Cond.code yX7_isWork cX7_isWork 1 (some .boolean), Cond.methodLink RX7 58 yX7_isDayAhead, Cond.instanceMethod yX7_isDayAhead, Cond.selects RX7 yX7_isDayAhead yX7_isDayAhead, Cond.code yX7_isDayAhead cX7_isDayAhead 2 (some .boolean), Cond.fieldLink RX7 47 "SongOffice" "standing" "LSongOffice$Ledger;", Cond.fieldLink RX7 105 "SongOffice$Ledger" "closed" "I", Cond.methodLink RX7 61 yX6_hasRoom, Cond.instanceMethod yX6_hasRoom, Cond.selects RX6 yX6_hasRoom yX6_hasRoom, Cond.initialized RX6, Cond.code yX6_hasRoom cX6_hasRoom 4 (some .boolean), Cond.fieldLink RX6 9 "SongOffice$ShareBook" "sets" "[I", Cond.fieldLink RX6 15 "SongOffice$ShareBook" "days" "[I", Cond.methodLink RX7 65 yX7_isHand, Cond.static yX7_isHand, Cond.code yX7_isHand cX7_isHand 1 (some .boolean), Cond.methodLink RX7 68 yX7_isPart, Cond.static yX7_isPart]
def wsX7_share_r2 : List Cond := [Cond.code yX7_isPart cX7_isPart 1 (some .boolean), Cond.methodLink RX7 71 yX7_isSharer, Cond.static yX7_isSharer, Cond.code yX7_isSharer cX7_isSharer 2 (some .boolean), Cond.methodLink RX7 74 yX6_addSet, Cond.instanceMethod yX6_addSet, Cond.selects RX6 yX6_addSet yX6_addSet, Cond.code yX6_addSet cX6_addSet 4 (some .int), Cond.methodLink RX7 78 yX6_put, Cond.instanceMethod yX6_put, Cond.selects RX6 yX6_put yX6_put, Cond.code yX6_put cX6_put 5 none, Cond.fieldLink RX6 18 "SongOffice$ShareBook" "hands" "[I", Cond.fieldLink RX6 21 "SongOffice$ShareBook" "parts" "[I"]
def wsX7_share : List Cond := .code yX7_share cX7_share 12 (some .int) :: ((wsX7_share_r1 ++ wsX7_share_r2) ++ wsX70 ++ wsX60 ++ wsX20)
def wsX7_isSum : List Cond := .code yX7_isSum cX7_isSum 1 (some .boolean) :: ([.constant RX7 252 (1000000)])
def wsX7_termsFit : List Cond := .code yX7_termsFit cX7_termsFit 4 (some .boolean) :: ([.methodLink RX7 68 yX7_isPart, .static yX7_isPart, .initialized RX7, .code yX7_isPart cX7_isPart 1 (some .boolean), .methodLink RX7 124 yX7_isSum, .static yX7_isSum, .code yX7_isSum cX7_isSum 1 (some .boolean), .constant RX7 252 (1000000)])
def wsX7_bargain_r1 : List Cond := [Cond.fieldLink RX7 19 "SongOffice" "bargains" "LSongOffice$BargainBook;", Cond.fieldLink RX7 86 "SongOffice$BargainBook" "size" "I", Cond.methodLink RX7 65 yX7_isHand, Cond.static yX7_isHand, Cond.initialized RX7, Cond.code yX7_isHand cX7_isHand 1 (some .boolean), Cond.methodLink RX7 58 yX7_isDayAhead, Cond.instanceMethod yX7_isDayAhead, Cond.selects RX7 yX7_isDayAhead yX7_isDayAhead, Cond.code yX7_isDayAhead cX7_isDayAhead 2 (some .boolean), Cond.fieldLink RX7 47 "SongOffice" "standing" "LSongOffice$Ledger;", Cond.fieldLink RX7 105 "SongOffice$Ledger" "closed" "I", Cond.methodLink RX7 90 yX7_termsFit, Cond.static yX7_termsFit, Cond.code yX7_termsFit cX7_termsFit 4 (some .boolean), Cond.methodLink RX7 68 yX7_isPart, Cond.static yX7_isPart, Cond.code yX7_isPart cX7_isPart 1 (some .boolean), Cond.methodLink RX7 124 yX7_isSum, Cond.static yX7_isSum, Cond.code yX7_isSum cX7_isSum 1 (some .boolean), Cond.constant RX7 252 (1000000), Cond.methodLink RX7 94 yX7_passesOn, Cond.static yX7_passesOn]
def wsX7_bargain_r2 : List Cond := [Cond.code yX7_passesOn cX7_passesOn 1 (some .boolean), Cond.methodLink RX7 97 yX0_add, Cond.instanceMethod yX0_add, Cond.selects RX0 yX0_add yX0_add, Cond.initialized RX0, Cond.code yX0_add cX0_add 6 (some .int), Cond.fieldLink RX0 36 "SongOffice$BargainBook" "size" "I", Cond.fieldLink RX0 9 "SongOffice$BargainBook" "kinds" "[I", Cond.fieldLink RX0 15 "SongOffice$BargainBook" "hands" "[I", Cond.fieldLink RX0 18 "SongOffice$BargainBook" "works" "[I", Cond.fieldLink RX0 21 "SongOffice$BargainBook" "days" "[I", Cond.methodLink RX7 101 yX0_agree, Cond.instanceMethod yX0_agree, Cond.selects RX0 yX0_agree yX0_agree, Cond.code yX0_agree cX0_agree 6 none, Cond.fieldLink RX0 24 "SongOffice$BargainBook" "x" "[I", Cond.fieldLink RX0 27 "SongOffice$BargainBook" "y" "[I", Cond.fieldLink RX0 30 "SongOffice$BargainBook" "z" "[I", Cond.fieldLink RX0 33 "SongOffice$BargainBook" "takers" "[I"]
def wsX7_bargain : List Cond := .code yX7_bargain cX7_bargain 10 (some .int) :: ((wsX7_bargain_r1 ++ wsX7_bargain_r2) ++ wsX70 ++ wsX00 ++ wsX20)
def wsX7_isTold : List Cond := .code yX7_isTold cX7_isTold 1 (some .boolean) :: ([.constant RX7 252 (1000000)])
def wsX7_reportFits : List Cond := .code yX7_reportFits cX7_reportFits 6 (some .boolean) :: ([.fieldLink RX7 10 "SongOffice" "shares" "LSongOffice$ShareBook;", .fieldLink RX7 82 "SongOffice$ShareBook" "sets" "[I", .methodLink RX7 54 yX7_isWork, .static yX7_isWork, .initialized RX7, .code yX7_isWork cX7_isWork 1 (some .boolean), .methodLink RX7 249 yX7_isTold, .static yX7_isTold, .code yX7_isTold cX7_isTold 1 (some .boolean), .constant RX7 252 (1000000)] ++ wsX70 ++ wsX60)
def wsX7_report_r1 : List Cond := [Cond.fieldLink RX7 47 "SongOffice" "standing" "LSongOffice$Ledger;", Cond.fieldLink RX7 105 "SongOffice$Ledger" "closed" "I", Cond.fieldLink RX7 26 "SongOffice" "reports" "LSongOffice$ReportBook;", Cond.methodLink RX7 108 yX7_reportFits, Cond.instanceMethod yX7_reportFits, Cond.selects RX7 yX7_reportFits yX7_reportFits, Cond.initialized RX7, Cond.code yX7_reportFits cX7_reportFits 6 (some .boolean), Cond.fieldLink RX7 10 "SongOffice" "shares" "LSongOffice$ShareBook;", Cond.fieldLink RX7 82 "SongOffice$ShareBook" "sets" "[I", Cond.methodLink RX7 54 yX7_isWork, Cond.static yX7_isWork, Cond.code yX7_isWork cX7_isWork 1 (some .boolean), Cond.methodLink RX7 249 yX7_isTold, Cond.static yX7_isTold, Cond.code yX7_isTold cX7_isTold 1 (some .boolean), Cond.constant RX7 252 (1000000), Cond.methodLink RX7 112 yX4_put, Cond.instanceMethod yX4_put, Cond.selects RX4 yX4_put yX4_put, Cond.initialized RX4, Cond.code yX4_put cX4_put 8 none, Cond.fieldLink RX4 15 "SongOffice$ReportBook" "ways" "[I", Cond.fieldLink RX4 18 "SongOffice$ReportBook" "places" "[I"]
def wsX7_report_r2 : List Cond := [Cond.fieldLink RX4 24 "SongOffice$ReportBook" "sizes" "[I", Cond.fieldLink RX4 21 "SongOffice$ReportBook" "order" "[I", Cond.fieldLink RX4 9 "SongOffice$ReportBook" "coins" "[I"]
def wsX7_report : List Cond := .code yX7_report cX7_report 7 (some .boolean) :: ((wsX7_report_r1 ++ wsX7_report_r2) ++ wsX70 ++ wsX20 ++ wsX60 ++ wsX40)
def wsX7_tear : List Cond := .code yX7_tear cX7_tear 3 (some .boolean) :: ([.fieldLink RX7 47 "SongOffice" "standing" "LSongOffice$Ledger;", .fieldLink RX7 105 "SongOffice$Ledger" "closed" "I", .fieldLink RX7 26 "SongOffice" "reports" "LSongOffice$ReportBook;", .methodLink RX7 115 Lib.Math.max.name, .static Lib.Math.max.name, .initialized "java/lang/Math", .code Lib.Math.max.name Lib.Math.max.code 2 (some .int), .methodLink RX7 120 yX4_tearAt, .instanceMethod yX4_tearAt, .selects RX4 yX4_tearAt yX4_tearAt, .initialized RX4, .code yX4_tearAt cX4_tearAt 3 none, .fieldLink RX4 27 "SongOffice$ReportBook" "openWorks" "[I"] ++ wsX70 ++ wsX20 ++ wsX40)
def wsX7_sent_r1 : List Cond := [Cond.fieldLink RX7 33 "SongOffice" "sentBack" "LSongOffice$SentBook;", Cond.fieldLink RX7 127 "SongOffice$SentBook" "size" "I", Cond.constantLong RX7 128 (-1), Cond.fieldLink RX7 47 "SongOffice" "standing" "LSongOffice$Ledger;", Cond.fieldLink RX7 105 "SongOffice$Ledger" "closed" "I", Cond.fieldLink RX7 137 "SongOffice$Ledger" "lacked" "J", Cond.methodLink RX7 65 yX7_isHand, Cond.static yX7_isHand, Cond.initialized RX7, Cond.code yX7_isHand cX7_isHand 1 (some .boolean), Cond.methodLink RX7 124 yX7_isSum, Cond.static yX7_isSum, Cond.code yX7_isSum cX7_isSum 1 (some .boolean), Cond.constant RX7 252 (1000000), Cond.methodLink RX7 130 yX5_add, Cond.instanceMethod yX5_add, Cond.selects RX5 yX5_add yX5_add, Cond.initialized RX5, Cond.code yX5_add cX5_add 4 none, Cond.fieldLink RX5 9 "SongOffice$SentBook" "hands" "[I", Cond.fieldLink RX5 21 "SongOffice$SentBook" "size" "I", Cond.fieldLink RX5 15 "SongOffice$SentBook" "coins" "[I", Cond.fieldLink RX5 18 "SongOffice$SentBook" "terms" "[I", Cond.fieldLink RX5 25 "SongOffice$SentBook" "coinsInAll" "J"]
def wsX7_sent_r2 : List Cond := [Cond.methodLink RX7 133 yX2_reckonTo, Cond.instanceMethod yX2_reckonTo, Cond.selects RX2 yX2_reckonTo yX2_reckonTo, Cond.initialized RX2, Cond.code yX2_reckonTo cX2_reckonTo 4 none, Cond.methodLink RX2 85 Lib.Math.min.name, Cond.static Lib.Math.min.name, Cond.initialized "java/lang/Math", Cond.code Lib.Math.min.name Lib.Math.min.code 2 (some .int), Cond.fieldLink RX2 78 "SongOffice$Ledger" "closed" "I", Cond.methodLink RX2 91 yX2_takeSentOf, Cond.instanceMethod yX2_takeSentOf, Cond.selects RX2 yX2_takeSentOf yX2_takeSentOf, Cond.code yX2_takeSentOf cX2_takeSentOf 2 none, Cond.fieldLink RX2 82 "SongOffice$Ledger" "sentTaken" "I", Cond.fieldLink RX2 55 "SongOffice$Ledger" "sentBack" "LSongOffice$SentBook;", Cond.fieldLink RX2 124 "SongOffice$SentBook" "size" "I", Cond.fieldLink RX2 129 "SongOffice$SentBook" "terms" "[I", Cond.fieldLink RX2 132 "SongOffice$SentBook" "hands" "[I", Cond.fieldLink RX2 135 "SongOffice$SentBook" "coins" "[I", Cond.constantLong RX2 110 (1000000), Cond.methodLink RX2 138 yX2_takeSent, Cond.instanceMethod yX2_takeSent, Cond.selects RX2 yX2_takeSent yX2_takeSent]
def wsX7_sent_r3 : List Cond := [Cond.code yX2_takeSent cX2_takeSent 10 none, Cond.fieldLink RX2 45 "SongOffice$Ledger" "bargains" "LSongOffice$BargainBook;", Cond.fieldLink RX2 142 "SongOffice$BargainBook" "size" "I", Cond.fieldLink RX2 31 "SongOffice$Ledger" "bags" "[J", Cond.methodLink RX2 147 Lib.MathLoose.min_long.x, Cond.static Lib.MathLoose.min_long.x, Cond.code Lib.MathLoose.min_long.x Lib.MathLoose.min_long.code 4 (some .long), Cond.fieldLink RX2 15 "SongOffice$Ledger" "debt" "[J", Cond.fieldLink RX2 150 "SongOffice$Ledger" "lacked" "J", Cond.methodLink RX2 143 yX0_isReserveOf, Cond.instanceMethod yX0_isReserveOf, Cond.selects RX0 yX0_isReserveOf yX0_isReserveOf, Cond.initialized RX0, Cond.code yX0_isReserveOf cX0_isReserveOf 3 (some .boolean), Cond.fieldLink RX0 9 "SongOffice$BargainBook" "kinds" "[I", Cond.fieldLink RX0 15 "SongOffice$BargainBook" "hands" "[I", Cond.methodLink RX2 94 yX2_closeTerm, Cond.instanceMethod yX2_closeTerm, Cond.selects RX2 yX2_closeTerm yX2_closeTerm, Cond.code yX2_closeTerm cX2_closeTerm 3 none, Cond.fieldLink RX2 61 "SongOffice$Ledger" "lines" "LSongOffice$LineBook;", Cond.fieldLink RX2 153 "SongOffice$LineBook" "size" "I", Cond.fieldLink RX2 50 "SongOffice$Ledger" "reports" "LSongOffice$ReportBook;", Cond.methodLink RX2 154 yX4_sizeOf]
def wsX7_sent_r4 : List Cond := [Cond.instanceMethod yX4_sizeOf, Cond.selects RX4 yX4_sizeOf yX4_sizeOf, Cond.initialized RX4, Cond.code yX4_sizeOf cX4_sizeOf 2 (some .int), Cond.fieldLink RX4 24 "SongOffice$ReportBook" "sizes" "[I", Cond.methodLink RX2 160 yX4_workAt, Cond.instanceMethod yX4_workAt, Cond.selects RX4 yX4_workAt yX4_workAt, Cond.code yX4_workAt cX4_workAt 3 (some .int), Cond.fieldLink RX4 21 "SongOffice$ReportBook" "order" "[I", Cond.methodLink RX2 163 yX4_isOpen, Cond.instanceMethod yX4_isOpen, Cond.selects RX4 yX4_isOpen yX4_isOpen, Cond.code yX4_isOpen cX4_isOpen 3 (some .boolean), Cond.fieldLink RX4 27 "SongOffice$ReportBook" "openWorks" "[I", Cond.methodLink RX2 166 yX2_bringIn, Cond.instanceMethod yX2_bringIn, Cond.selects RX2 yX2_bringIn yX2_bringIn, Cond.code yX2_bringIn cX2_bringIn 10 none, Cond.fieldLink RX2 40 "SongOffice$Ledger" "shares" "LSongOffice$ShareBook;", Cond.fieldLink RX2 74 "SongOffice$Ledger" "cameIn" "J", Cond.fieldLink RX2 194 "SongOffice$ShareBook" "parts" "[I", Cond.constantLong RX2 197 (1000), Cond.fieldLink RX2 199 "SongOffice$ShareBook" "hands" "[I"]
def wsX7_sent_r5 : List Cond := [Cond.methodLink RX2 178 yX4_wayOf, Cond.instanceMethod yX4_wayOf, Cond.selects RX4 yX4_wayOf yX4_wayOf, Cond.code yX4_wayOf cX4_wayOf 3 (some .int), Cond.fieldLink RX4 15 "SongOffice$ReportBook" "ways" "[I", Cond.methodLink RX2 181 yX4_coinsOf, Cond.instanceMethod yX4_coinsOf, Cond.selects RX4 yX4_coinsOf yX4_coinsOf, Cond.code yX4_coinsOf cX4_coinsOf 4 (some .int), Cond.fieldLink RX4 9 "SongOffice$ReportBook" "coins" "[I", Cond.methodLink RX2 185 yX2_lastDay, Cond.instanceMethod yX2_lastDay, Cond.selects RX2 yX2_lastDay yX2_lastDay, Cond.code yX2_lastDay cX2_lastDay 1 (some .int), Cond.methodLink RX2 189 yX6_setAt, Cond.instanceMethod yX6_setAt, Cond.selects RX6 yX6_setAt yX6_setAt, Cond.initialized RX6, Cond.code yX6_setAt cX6_setAt 5 (some .int), Cond.fieldLink RX6 9 "SongOffice$ShareBook" "sets" "[I", Cond.fieldLink RX6 15 "SongOffice$ShareBook" "days" "[I", Cond.methodLink RX2 200 yX2_runLine, Cond.instanceMethod yX2_runLine, Cond.selects RX2 yX2_runLine yX2_runLine]
def wsX7_sent_r6 : List Cond := [Cond.code yX2_runLine cX2_runLine 15 none, Cond.fieldLink RX2 116 "SongOffice$BargainBook" "kinds" "[I", Cond.fieldLink RX2 28 "SongOffice$Ledger" "came" "[J", Cond.fieldLink RX2 25 "SongOffice$Ledger" "kept" "[J", Cond.fieldLink RX2 220 "SongOffice$BargainBook" "takers" "[I", Cond.fieldLink RX2 9 "SongOffice$Ledger" "purse" "[J", Cond.methodLink RX2 204 yX3_begin, Cond.instanceMethod yX3_begin, Cond.selects RX3 yX3_begin yX3_begin, Cond.initialized RX3, Cond.code yX3_begin cX3_begin 7 (some .int), Cond.fieldLink RX3 36 "SongOffice$LineBook" "size" "I", Cond.fieldLink RX3 13 "SongOffice$LineBook" "room" "I", Cond.fieldLink RX3 19 "SongOffice$LineBook" "work" "[I", Cond.fieldLink RX3 23 "SongOffice$LineBook" "owner" "[I", Cond.fieldLink RX3 26 "SongOffice$LineBook" "from" "[I", Cond.fieldLink RX3 29 "SongOffice$LineBook" "began" "[J", Cond.static yX7_passesOn, Cond.code yX7_passesOn cX7_passesOn 1 (some .boolean), Cond.methodLink RX2 212 yX0_holdsFor, Cond.instanceMethod yX0_holdsFor, Cond.selects RX0 yX0_holdsFor yX0_holdsFor, Cond.code yX0_holdsFor cX0_holdsFor 5 (some .boolean), Cond.fieldLink RX0 18 "SongOffice$BargainBook" "works" "[I"]
def wsX7_sent_r7 : List Cond := [Cond.fieldLink RX0 21 "SongOffice$BargainBook" "days" "[I", Cond.methodLink RX2 216 yX2_takenBy, Cond.instanceMethod yX2_takenBy, Cond.selects RX2 yX2_takenBy yX2_takenBy, Cond.code yX2_takenBy cX2_takenBy 8 (some .long), Cond.fieldLink RX2 121 "SongOffice$BargainBook" "x" "[I", Cond.fieldLink RX2 226 "SongOffice$BargainBook" "y" "[I", Cond.methodLink RX2 229 Lib.MathLoose.max_long.x, Cond.static Lib.MathLoose.max_long.x, Cond.code Lib.MathLoose.max_long.x Lib.MathLoose.max_long.code 4 (some .long), Cond.fieldLink RX2 232 "SongOffice$BargainBook" "z" "[I", Cond.methodLink RX2 223 yX3_end, Cond.instanceMethod yX3_end, Cond.selects RX3 yX3_end yX3_end, Cond.code yX3_end cX3_end 4 none, Cond.fieldLink RX3 33 "SongOffice$LineBook" "ended" "[J", Cond.methodLink RX2 169 yX2_emptyOldBags, Cond.instanceMethod yX2_emptyOldBags, Cond.selects RX2 yX2_emptyOldBags yX2_emptyOldBags, Cond.code yX2_emptyOldBags cX2_emptyOldBags 3 none, Cond.fieldLink RX2 235 "SongOffice$BargainBook" "hands" "[I", Cond.methodLink RX2 172 yX2_payHands, Cond.instanceMethod yX2_payHands, Cond.selects RX2 yX2_payHands yX2_payHands]
def wsX7_sent_r8 : List Cond := [Cond.code yX2_payHands cX2_payHands 4 none, Cond.fieldLink RX2 21 "SongOffice$Ledger" "dues" "[I", Cond.methodLink RX2 175 yX2_fillFloors, Cond.instanceMethod yX2_fillFloors, Cond.selects RX2 yX2_fillFloors yX2_fillFloors, Cond.code yX2_fillFloors cX2_fillFloors 7 none, Cond.fieldLink RX2 236 "SongOffice$BargainBook" "days" "[I", Cond.fieldLink RX2 18 "SongOffice$Ledger" "filled" "[J", Cond.methodLink RX2 112 yX2_duesOf, Cond.instanceMethod yX2_duesOf, Cond.selects RX2 yX2_duesOf yX2_duesOf, Cond.code yX2_duesOf cX2_duesOf 7 (some .long)]
def wsX7_sent : List Cond := .code yX7_sent cX7_sent 4 (some .long) :: ((wsX7_sent_r1 ++ (wsX7_sent_r2 ++ (wsX7_sent_r3 ++ (wsX7_sent_r4 ++ (wsX7_sent_r5 ++ (wsX7_sent_r6 ++ (wsX7_sent_r7 ++ wsX7_sent_r8))))))) ++ wsX70 ++ wsX50 ++ wsX20 ++ wsX00 ++ wsX30 ++ wsX40 ++ wsX60)
def wsX7_close_r1 : List Cond := [Cond.fieldLink RX7 47 "SongOffice" "standing" "LSongOffice$Ledger;", Cond.fieldLink RX7 105 "SongOffice$Ledger" "closed" "I", Cond.methodLink RX7 133 yX2_reckonTo, Cond.instanceMethod yX2_reckonTo, Cond.selects RX2 yX2_reckonTo yX2_reckonTo, Cond.initialized RX2, Cond.code yX2_reckonTo cX2_reckonTo 4 none, Cond.methodLink RX2 85 Lib.Math.min.name, Cond.static Lib.Math.min.name, Cond.initialized "java/lang/Math", Cond.code Lib.Math.min.name Lib.Math.min.code 2 (some .int), Cond.fieldLink RX2 78 "SongOffice$Ledger" "closed" "I", Cond.methodLink RX2 91 yX2_takeSentOf, Cond.instanceMethod yX2_takeSentOf, Cond.selects RX2 yX2_takeSentOf yX2_takeSentOf, Cond.code yX2_takeSentOf cX2_takeSentOf 2 none, Cond.fieldLink RX2 82 "SongOffice$Ledger" "sentTaken" "I", Cond.fieldLink RX2 55 "SongOffice$Ledger" "sentBack" "LSongOffice$SentBook;", Cond.fieldLink RX2 124 "SongOffice$SentBook" "size" "I", Cond.fieldLink RX2 129 "SongOffice$SentBook" "terms" "[I", Cond.fieldLink RX2 132 "SongOffice$SentBook" "hands" "[I", Cond.fieldLink RX2 135 "SongOffice$SentBook" "coins" "[I", Cond.constantLong RX2 110 (1000000), Cond.methodLink RX2 138 yX2_takeSent]
def wsX7_close_r2 : List Cond := [Cond.instanceMethod yX2_takeSent, Cond.selects RX2 yX2_takeSent yX2_takeSent, Cond.code yX2_takeSent cX2_takeSent 10 none, Cond.fieldLink RX2 45 "SongOffice$Ledger" "bargains" "LSongOffice$BargainBook;", Cond.fieldLink RX2 142 "SongOffice$BargainBook" "size" "I", Cond.fieldLink RX2 31 "SongOffice$Ledger" "bags" "[J", Cond.methodLink RX2 147 Lib.MathLoose.min_long.x, Cond.static Lib.MathLoose.min_long.x, Cond.code Lib.MathLoose.min_long.x Lib.MathLoose.min_long.code 4 (some .long), Cond.fieldLink RX2 15 "SongOffice$Ledger" "debt" "[J", Cond.fieldLink RX2 150 "SongOffice$Ledger" "lacked" "J", Cond.methodLink RX2 143 yX0_isReserveOf, Cond.instanceMethod yX0_isReserveOf, Cond.selects RX0 yX0_isReserveOf yX0_isReserveOf, Cond.initialized RX0, Cond.code yX0_isReserveOf cX0_isReserveOf 3 (some .boolean), Cond.fieldLink RX0 9 "SongOffice$BargainBook" "kinds" "[I", Cond.fieldLink RX0 15 "SongOffice$BargainBook" "hands" "[I", Cond.methodLink RX2 94 yX2_closeTerm, Cond.instanceMethod yX2_closeTerm, Cond.selects RX2 yX2_closeTerm yX2_closeTerm, Cond.code yX2_closeTerm cX2_closeTerm 3 none, Cond.fieldLink RX2 61 "SongOffice$Ledger" "lines" "LSongOffice$LineBook;", Cond.fieldLink RX2 153 "SongOffice$LineBook" "size" "I"]
def wsX7_close_r3 : List Cond := [Cond.fieldLink RX2 50 "SongOffice$Ledger" "reports" "LSongOffice$ReportBook;", Cond.methodLink RX2 154 yX4_sizeOf, Cond.instanceMethod yX4_sizeOf, Cond.selects RX4 yX4_sizeOf yX4_sizeOf, Cond.initialized RX4, Cond.code yX4_sizeOf cX4_sizeOf 2 (some .int), Cond.fieldLink RX4 24 "SongOffice$ReportBook" "sizes" "[I", Cond.methodLink RX2 160 yX4_workAt, Cond.instanceMethod yX4_workAt, Cond.selects RX4 yX4_workAt yX4_workAt, Cond.code yX4_workAt cX4_workAt 3 (some .int), Cond.fieldLink RX4 21 "SongOffice$ReportBook" "order" "[I", Cond.methodLink RX2 163 yX4_isOpen, Cond.instanceMethod yX4_isOpen, Cond.selects RX4 yX4_isOpen yX4_isOpen, Cond.code yX4_isOpen cX4_isOpen 3 (some .boolean), Cond.fieldLink RX4 27 "SongOffice$ReportBook" "openWorks" "[I", Cond.methodLink RX2 166 yX2_bringIn, Cond.instanceMethod yX2_bringIn, Cond.selects RX2 yX2_bringIn yX2_bringIn, Cond.code yX2_bringIn cX2_bringIn 10 none, Cond.fieldLink RX2 40 "SongOffice$Ledger" "shares" "LSongOffice$ShareBook;", Cond.fieldLink RX2 74 "SongOffice$Ledger" "cameIn" "J", Cond.fieldLink RX2 194 "SongOffice$ShareBook" "parts" "[I"]
def wsX7_close_r4 : List Cond := [Cond.constantLong RX2 197 (1000), Cond.fieldLink RX2 199 "SongOffice$ShareBook" "hands" "[I", Cond.methodLink RX2 178 yX4_wayOf, Cond.instanceMethod yX4_wayOf, Cond.selects RX4 yX4_wayOf yX4_wayOf, Cond.code yX4_wayOf cX4_wayOf 3 (some .int), Cond.fieldLink RX4 15 "SongOffice$ReportBook" "ways" "[I", Cond.methodLink RX2 181 yX4_coinsOf, Cond.instanceMethod yX4_coinsOf, Cond.selects RX4 yX4_coinsOf yX4_coinsOf, Cond.code yX4_coinsOf cX4_coinsOf 4 (some .int), Cond.fieldLink RX4 9 "SongOffice$ReportBook" "coins" "[I", Cond.methodLink RX2 185 yX2_lastDay, Cond.instanceMethod yX2_lastDay, Cond.selects RX2 yX2_lastDay yX2_lastDay, Cond.code yX2_lastDay cX2_lastDay 1 (some .int), Cond.methodLink RX2 189 yX6_setAt, Cond.instanceMethod yX6_setAt, Cond.selects RX6 yX6_setAt yX6_setAt, Cond.initialized RX6, Cond.code yX6_setAt cX6_setAt 5 (some .int), Cond.fieldLink RX6 9 "SongOffice$ShareBook" "sets" "[I", Cond.fieldLink RX6 15 "SongOffice$ShareBook" "days" "[I", Cond.methodLink RX2 200 yX2_runLine]
def wsX7_close_r5 : List Cond := [Cond.instanceMethod yX2_runLine, Cond.selects RX2 yX2_runLine yX2_runLine, Cond.code yX2_runLine cX2_runLine 15 none, Cond.fieldLink RX2 116 "SongOffice$BargainBook" "kinds" "[I", Cond.fieldLink RX2 28 "SongOffice$Ledger" "came" "[J", Cond.fieldLink RX2 25 "SongOffice$Ledger" "kept" "[J", Cond.fieldLink RX2 220 "SongOffice$BargainBook" "takers" "[I", Cond.fieldLink RX2 9 "SongOffice$Ledger" "purse" "[J", Cond.methodLink RX2 204 yX3_begin, Cond.instanceMethod yX3_begin, Cond.selects RX3 yX3_begin yX3_begin, Cond.initialized RX3, Cond.code yX3_begin cX3_begin 7 (some .int), Cond.fieldLink RX3 36 "SongOffice$LineBook" "size" "I", Cond.fieldLink RX3 13 "SongOffice$LineBook" "room" "I", Cond.fieldLink RX3 19 "SongOffice$LineBook" "work" "[I", Cond.fieldLink RX3 23 "SongOffice$LineBook" "owner" "[I", Cond.fieldLink RX3 26 "SongOffice$LineBook" "from" "[I", Cond.fieldLink RX3 29 "SongOffice$LineBook" "began" "[J", Cond.static yX7_passesOn, Cond.initialized RX7, Cond.code yX7_passesOn cX7_passesOn 1 (some .boolean), Cond.methodLink RX2 212 yX0_holdsFor, Cond.instanceMethod yX0_holdsFor]
def wsX7_close_r6 : List Cond := [Cond.selects RX0 yX0_holdsFor yX0_holdsFor, Cond.code yX0_holdsFor cX0_holdsFor 5 (some .boolean), Cond.fieldLink RX0 18 "SongOffice$BargainBook" "works" "[I", Cond.fieldLink RX0 21 "SongOffice$BargainBook" "days" "[I", Cond.methodLink RX2 216 yX2_takenBy, Cond.instanceMethod yX2_takenBy, Cond.selects RX2 yX2_takenBy yX2_takenBy, Cond.code yX2_takenBy cX2_takenBy 8 (some .long), Cond.fieldLink RX2 121 "SongOffice$BargainBook" "x" "[I", Cond.fieldLink RX2 226 "SongOffice$BargainBook" "y" "[I", Cond.methodLink RX2 229 Lib.MathLoose.max_long.x, Cond.static Lib.MathLoose.max_long.x, Cond.code Lib.MathLoose.max_long.x Lib.MathLoose.max_long.code 4 (some .long), Cond.fieldLink RX2 232 "SongOffice$BargainBook" "z" "[I", Cond.methodLink RX2 223 yX3_end, Cond.instanceMethod yX3_end, Cond.selects RX3 yX3_end yX3_end, Cond.code yX3_end cX3_end 4 none, Cond.fieldLink RX3 33 "SongOffice$LineBook" "ended" "[J", Cond.methodLink RX2 169 yX2_emptyOldBags, Cond.instanceMethod yX2_emptyOldBags, Cond.selects RX2 yX2_emptyOldBags yX2_emptyOldBags, Cond.code yX2_emptyOldBags cX2_emptyOldBags 3 none, Cond.fieldLink RX2 235 "SongOffice$BargainBook" "hands" "[I"]
def wsX7_close_r7 : List Cond := [Cond.methodLink RX2 172 yX2_payHands, Cond.instanceMethod yX2_payHands, Cond.selects RX2 yX2_payHands yX2_payHands, Cond.code yX2_payHands cX2_payHands 4 none, Cond.fieldLink RX2 21 "SongOffice$Ledger" "dues" "[I", Cond.methodLink RX2 175 yX2_fillFloors, Cond.instanceMethod yX2_fillFloors, Cond.selects RX2 yX2_fillFloors yX2_fillFloors, Cond.code yX2_fillFloors cX2_fillFloors 7 none, Cond.fieldLink RX2 236 "SongOffice$BargainBook" "days" "[I", Cond.fieldLink RX2 18 "SongOffice$Ledger" "filled" "[J", Cond.methodLink RX2 112 yX2_duesOf, Cond.instanceMethod yX2_duesOf, Cond.selects RX2 yX2_duesOf yX2_duesOf, Cond.code yX2_duesOf cX2_duesOf 7 (some .long)]
def wsX7_close : List Cond := .code yX7_close cX7_close 2 (some .int) :: ((wsX7_close_r1 ++ (wsX7_close_r2 ++ (wsX7_close_r3 ++ (wsX7_close_r4 ++ (wsX7_close_r5 ++ (wsX7_close_r6 ++ wsX7_close_r7)))))) ++ wsX70 ++ wsX20 ++ wsX50 ++ wsX00 ++ wsX30 ++ wsX40 ++ wsX60)
def wsX7_isClosed : List Cond := .code yX7_isClosed cX7_isClosed 2 (some .boolean) :: ([.fieldLink RX7 47 "SongOffice" "standing" "LSongOffice$Ledger;", .fieldLink RX7 105 "SongOffice$Ledger" "closed" "I"] ++ wsX70 ++ wsX20)
def wsX7_due : List Cond := .code yX7_due cX7_due 3 (some .int) :: ([.fieldLink RX7 47 "SongOffice" "standing" "LSongOffice$Ledger;", .fieldLink RX7 144 "SongOffice$Ledger" "dues" "[I", .methodLink RX7 65 yX7_isHand, .static yX7_isHand, .initialized RX7, .code yX7_isHand cX7_isHand 1 (some .boolean), .methodLink RX7 141 yX7_isClosed, .instanceMethod yX7_isClosed, .selects RX7 yX7_isClosed yX7_isClosed, .code yX7_isClosed cX7_isClosed 2 (some .boolean), .fieldLink RX7 105 "SongOffice$Ledger" "closed" "I"] ++ wsX70 ++ wsX20)
def wsX7_owedTo : List Cond := .code yX7_owedTo cX7_owedTo 2 (some .long) :: ([.fieldLink RX7 51 "SongOffice" "anew" "LSongOffice$Ledger;", .fieldLink RX7 47 "SongOffice" "standing" "LSongOffice$Ledger;", .methodLink RX7 246 yX2_worth, .instanceMethod yX2_worth, .selects RX2 yX2_worth yX2_worth, .initialized RX2, .code yX2_worth cX2_worth 2 (some .long), .constantLong RX2 110 (1000000), .fieldLink RX2 9 "SongOffice$Ledger" "purse" "[J", .fieldLink RX2 15 "SongOffice$Ledger" "debt" "[J", .methodLink RX2 107 yX2_allDues, .instanceMethod yX2_allDues, .selects RX2 yX2_allDues yX2_allDues, .code yX2_allDues cX2_allDues 2 (some .long), .fieldLink RX2 78 "SongOffice$Ledger" "closed" "I", .methodLink RX2 112 yX2_duesOf, .instanceMethod yX2_duesOf, .selects RX2 yX2_duesOf yX2_duesOf, .code yX2_duesOf cX2_duesOf 7 (some .long), .fieldLink RX2 21 "SongOffice$Ledger" "dues" "[I"] ++ wsX70 ++ wsX20)
def wsX7_hand_r1 : List Cond := [Cond.constantLong RX7 128 (-1), Cond.fieldLink RX7 47 "SongOffice" "standing" "LSongOffice$Ledger;", Cond.fieldLink RX7 147 "SongOffice$Ledger" "purse" "[J", Cond.fieldLink RX7 151 "SongOffice$Ledger" "debt" "[J", Cond.fieldLink RX7 158 "SongOffice$Ledger" "filled" "[J", Cond.fieldLink RX7 51 "SongOffice" "anew" "LSongOffice$Ledger;", Cond.fieldLink RX7 105 "SongOffice$Ledger" "closed" "I", Cond.methodLink RX7 65 yX7_isHand, Cond.static yX7_isHand, Cond.initialized RX7, Cond.code yX7_isHand cX7_isHand 1 (some .boolean), Cond.methodLink RX7 154 yX2_allDues, Cond.instanceMethod yX2_allDues, Cond.selects RX2 yX2_allDues yX2_allDues, Cond.initialized RX2, Cond.code yX2_allDues cX2_allDues 2 (some .long), Cond.fieldLink RX2 78 "SongOffice$Ledger" "closed" "I", Cond.methodLink RX2 112 yX2_duesOf, Cond.instanceMethod yX2_duesOf, Cond.selects RX2 yX2_duesOf yX2_duesOf, Cond.code yX2_duesOf cX2_duesOf 7 (some .long), Cond.fieldLink RX2 21 "SongOffice$Ledger" "dues" "[I", Cond.methodLink RX7 133 yX2_reckonTo, Cond.instanceMethod yX2_reckonTo]
def wsX7_hand_r2 : List Cond := [Cond.selects RX2 yX2_reckonTo yX2_reckonTo, Cond.code yX2_reckonTo cX2_reckonTo 4 none, Cond.methodLink RX2 85 Lib.Math.min.name, Cond.static Lib.Math.min.name, Cond.initialized "java/lang/Math", Cond.code Lib.Math.min.name Lib.Math.min.code 2 (some .int), Cond.methodLink RX2 91 yX2_takeSentOf, Cond.instanceMethod yX2_takeSentOf, Cond.selects RX2 yX2_takeSentOf yX2_takeSentOf, Cond.code yX2_takeSentOf cX2_takeSentOf 2 none, Cond.fieldLink RX2 82 "SongOffice$Ledger" "sentTaken" "I", Cond.fieldLink RX2 55 "SongOffice$Ledger" "sentBack" "LSongOffice$SentBook;", Cond.fieldLink RX2 124 "SongOffice$SentBook" "size" "I", Cond.fieldLink RX2 129 "SongOffice$SentBook" "terms" "[I", Cond.fieldLink RX2 132 "SongOffice$SentBook" "hands" "[I", Cond.fieldLink RX2 135 "SongOffice$SentBook" "coins" "[I", Cond.constantLong RX2 110 (1000000), Cond.methodLink RX2 138 yX2_takeSent, Cond.instanceMethod yX2_takeSent, Cond.selects RX2 yX2_takeSent yX2_takeSent, Cond.code yX2_takeSent cX2_takeSent 10 none, Cond.fieldLink RX2 45 "SongOffice$Ledger" "bargains" "LSongOffice$BargainBook;", Cond.fieldLink RX2 142 "SongOffice$BargainBook" "size" "I", Cond.fieldLink RX2 31 "SongOffice$Ledger" "bags" "[J"]
def wsX7_hand_r3 : List Cond := [Cond.methodLink RX2 147 Lib.MathLoose.min_long.x, Cond.static Lib.MathLoose.min_long.x, Cond.code Lib.MathLoose.min_long.x Lib.MathLoose.min_long.code 4 (some .long), Cond.fieldLink RX2 15 "SongOffice$Ledger" "debt" "[J", Cond.fieldLink RX2 150 "SongOffice$Ledger" "lacked" "J", Cond.methodLink RX2 143 yX0_isReserveOf, Cond.instanceMethod yX0_isReserveOf, Cond.selects RX0 yX0_isReserveOf yX0_isReserveOf, Cond.initialized RX0, Cond.code yX0_isReserveOf cX0_isReserveOf 3 (some .boolean), Cond.fieldLink RX0 9 "SongOffice$BargainBook" "kinds" "[I", Cond.fieldLink RX0 15 "SongOffice$BargainBook" "hands" "[I", Cond.methodLink RX2 94 yX2_closeTerm, Cond.instanceMethod yX2_closeTerm, Cond.selects RX2 yX2_closeTerm yX2_closeTerm, Cond.code yX2_closeTerm cX2_closeTerm 3 none, Cond.fieldLink RX2 61 "SongOffice$Ledger" "lines" "LSongOffice$LineBook;", Cond.fieldLink RX2 153 "SongOffice$LineBook" "size" "I", Cond.fieldLink RX2 50 "SongOffice$Ledger" "reports" "LSongOffice$ReportBook;", Cond.methodLink RX2 154 yX4_sizeOf, Cond.instanceMethod yX4_sizeOf, Cond.selects RX4 yX4_sizeOf yX4_sizeOf, Cond.initialized RX4, Cond.code yX4_sizeOf cX4_sizeOf 2 (some .int)]
def wsX7_hand_r4 : List Cond := [Cond.fieldLink RX4 24 "SongOffice$ReportBook" "sizes" "[I", Cond.methodLink RX2 160 yX4_workAt, Cond.instanceMethod yX4_workAt, Cond.selects RX4 yX4_workAt yX4_workAt, Cond.code yX4_workAt cX4_workAt 3 (some .int), Cond.fieldLink RX4 21 "SongOffice$ReportBook" "order" "[I", Cond.methodLink RX2 163 yX4_isOpen, Cond.instanceMethod yX4_isOpen, Cond.selects RX4 yX4_isOpen yX4_isOpen, Cond.code yX4_isOpen cX4_isOpen 3 (some .boolean), Cond.fieldLink RX4 27 "SongOffice$ReportBook" "openWorks" "[I", Cond.methodLink RX2 166 yX2_bringIn, Cond.instanceMethod yX2_bringIn, Cond.selects RX2 yX2_bringIn yX2_bringIn, Cond.code yX2_bringIn cX2_bringIn 10 none, Cond.fieldLink RX2 40 "SongOffice$Ledger" "shares" "LSongOffice$ShareBook;", Cond.fieldLink RX2 74 "SongOffice$Ledger" "cameIn" "J", Cond.fieldLink RX2 194 "SongOffice$ShareBook" "parts" "[I", Cond.constantLong RX2 197 (1000), Cond.fieldLink RX2 199 "SongOffice$ShareBook" "hands" "[I", Cond.methodLink RX2 178 yX4_wayOf, Cond.instanceMethod yX4_wayOf, Cond.selects RX4 yX4_wayOf yX4_wayOf, Cond.code yX4_wayOf cX4_wayOf 3 (some .int)]
def wsX7_hand_r5 : List Cond := [Cond.fieldLink RX4 15 "SongOffice$ReportBook" "ways" "[I", Cond.methodLink RX2 181 yX4_coinsOf, Cond.instanceMethod yX4_coinsOf, Cond.selects RX4 yX4_coinsOf yX4_coinsOf, Cond.code yX4_coinsOf cX4_coinsOf 4 (some .int), Cond.fieldLink RX4 9 "SongOffice$ReportBook" "coins" "[I", Cond.methodLink RX2 185 yX2_lastDay, Cond.instanceMethod yX2_lastDay, Cond.selects RX2 yX2_lastDay yX2_lastDay, Cond.code yX2_lastDay cX2_lastDay 1 (some .int), Cond.methodLink RX2 189 yX6_setAt, Cond.instanceMethod yX6_setAt, Cond.selects RX6 yX6_setAt yX6_setAt, Cond.initialized RX6, Cond.code yX6_setAt cX6_setAt 5 (some .int), Cond.fieldLink RX6 9 "SongOffice$ShareBook" "sets" "[I", Cond.fieldLink RX6 15 "SongOffice$ShareBook" "days" "[I", Cond.methodLink RX2 200 yX2_runLine, Cond.instanceMethod yX2_runLine, Cond.selects RX2 yX2_runLine yX2_runLine, Cond.code yX2_runLine cX2_runLine 15 none, Cond.fieldLink RX2 116 "SongOffice$BargainBook" "kinds" "[I", Cond.fieldLink RX2 28 "SongOffice$Ledger" "came" "[J", Cond.fieldLink RX2 25 "SongOffice$Ledger" "kept" "[J"]
def wsX7_hand_r6 : List Cond := [Cond.fieldLink RX2 220 "SongOffice$BargainBook" "takers" "[I", Cond.fieldLink RX2 9 "SongOffice$Ledger" "purse" "[J", Cond.methodLink RX2 204 yX3_begin, Cond.instanceMethod yX3_begin, Cond.selects RX3 yX3_begin yX3_begin, Cond.initialized RX3, Cond.code yX3_begin cX3_begin 7 (some .int), Cond.fieldLink RX3 36 "SongOffice$LineBook" "size" "I", Cond.fieldLink RX3 13 "SongOffice$LineBook" "room" "I", Cond.fieldLink RX3 19 "SongOffice$LineBook" "work" "[I", Cond.fieldLink RX3 23 "SongOffice$LineBook" "owner" "[I", Cond.fieldLink RX3 26 "SongOffice$LineBook" "from" "[I", Cond.fieldLink RX3 29 "SongOffice$LineBook" "began" "[J", Cond.static yX7_passesOn, Cond.code yX7_passesOn cX7_passesOn 1 (some .boolean), Cond.methodLink RX2 212 yX0_holdsFor, Cond.instanceMethod yX0_holdsFor, Cond.selects RX0 yX0_holdsFor yX0_holdsFor, Cond.code yX0_holdsFor cX0_holdsFor 5 (some .boolean), Cond.fieldLink RX0 18 "SongOffice$BargainBook" "works" "[I", Cond.fieldLink RX0 21 "SongOffice$BargainBook" "days" "[I", Cond.methodLink RX2 216 yX2_takenBy, Cond.instanceMethod yX2_takenBy, Cond.selects RX2 yX2_takenBy yX2_takenBy]
def wsX7_hand_r7 : List Cond := [Cond.code yX2_takenBy cX2_takenBy 8 (some .long), Cond.fieldLink RX2 121 "SongOffice$BargainBook" "x" "[I", Cond.fieldLink RX2 226 "SongOffice$BargainBook" "y" "[I", Cond.methodLink RX2 229 Lib.MathLoose.max_long.x, Cond.static Lib.MathLoose.max_long.x, Cond.code Lib.MathLoose.max_long.x Lib.MathLoose.max_long.code 4 (some .long), Cond.fieldLink RX2 232 "SongOffice$BargainBook" "z" "[I", Cond.methodLink RX2 223 yX3_end, Cond.instanceMethod yX3_end, Cond.selects RX3 yX3_end yX3_end, Cond.code yX3_end cX3_end 4 none, Cond.fieldLink RX3 33 "SongOffice$LineBook" "ended" "[J", Cond.methodLink RX2 169 yX2_emptyOldBags, Cond.instanceMethod yX2_emptyOldBags, Cond.selects RX2 yX2_emptyOldBags yX2_emptyOldBags, Cond.code yX2_emptyOldBags cX2_emptyOldBags 3 none, Cond.fieldLink RX2 235 "SongOffice$BargainBook" "hands" "[I", Cond.methodLink RX2 172 yX2_payHands, Cond.instanceMethod yX2_payHands, Cond.selects RX2 yX2_payHands yX2_payHands, Cond.code yX2_payHands cX2_payHands 4 none, Cond.methodLink RX2 175 yX2_fillFloors, Cond.instanceMethod yX2_fillFloors, Cond.selects RX2 yX2_fillFloors yX2_fillFloors]
def wsX7_hand_r8 : List Cond := [Cond.code yX2_fillFloors cX2_fillFloors 7 none, Cond.fieldLink RX2 236 "SongOffice$BargainBook" "days" "[I", Cond.fieldLink RX2 18 "SongOffice$Ledger" "filled" "[J", Cond.methodLink RX7 161 yX7_owedTo, Cond.instanceMethod yX7_owedTo, Cond.selects RX7 yX7_owedTo yX7_owedTo, Cond.code yX7_owedTo cX7_owedTo 2 (some .long), Cond.methodLink RX7 246 yX2_worth, Cond.instanceMethod yX2_worth, Cond.selects RX2 yX2_worth yX2_worth, Cond.code yX2_worth cX2_worth 2 (some .long), Cond.methodLink RX2 107 yX2_allDues]
def wsX7_hand : List Cond := .code yX7_hand cX7_hand 3 (some .long) :: ((wsX7_hand_r1 ++ (wsX7_hand_r2 ++ (wsX7_hand_r3 ++ (wsX7_hand_r4 ++ (wsX7_hand_r5 ++ (wsX7_hand_r6 ++ (wsX7_hand_r7 ++ wsX7_hand_r8))))))) ++ wsX70 ++ wsX20 ++ wsX50 ++ wsX00 ++ wsX30 ++ wsX40 ++ wsX60)
def wsX7_has : List Cond := .code yX7_has cX7_has 3 (some .long) :: ([.fieldLink RX7 19 "SongOffice" "bargains" "LSongOffice$BargainBook;", .fieldLink RX7 86 "SongOffice$BargainBook" "size" "I", .constantLong RX7 128 (-1), .fieldLink RX7 47 "SongOffice" "standing" "LSongOffice$Ledger;", .fieldLink RX7 164 "SongOffice$Ledger" "kept" "[J", .fieldLink RX7 167 "SongOffice$Ledger" "came" "[J", .fieldLink RX7 173 "SongOffice$Ledger" "bags" "[J", .methodLink RX7 170 yX2_stillIn, .instanceMethod yX2_stillIn, .selects RX2 yX2_stillIn yX2_stillIn, .initialized RX2, .code yX2_stillIn cX2_stillIn 5 (some .long), .fieldLink RX2 45 "SongOffice$Ledger" "bargains" "LSongOffice$BargainBook;", .fieldLink RX2 116 "SongOffice$BargainBook" "kinds" "[I", .fieldLink RX2 121 "SongOffice$BargainBook" "x" "[I", .constantLong RX2 110 (1000000), .fieldLink RX2 25 "SongOffice$Ledger" "kept" "[J", .fieldLink RX2 31 "SongOffice$Ledger" "bags" "[J"] ++ wsX70 ++ wsX00 ++ wsX20)
def wsX7_isTheTerm : List Cond := .code yX7_isTheTerm cX7_isTheTerm 2 (some .boolean) :: ([.fieldLink RX7 47 "SongOffice" "standing" "LSongOffice$Ledger;", .fieldLink RX7 105 "SongOffice$Ledger" "closed" "I"] ++ wsX70 ++ wsX20)
def wsX7_told_r1 : List Cond := [Cond.fieldLink RX7 26 "SongOffice" "reports" "LSongOffice$ReportBook;", Cond.methodLink RX7 141 yX7_isClosed, Cond.instanceMethod yX7_isClosed, Cond.selects RX7 yX7_isClosed yX7_isClosed, Cond.initialized RX7, Cond.code yX7_isClosed cX7_isClosed 2 (some .boolean), Cond.fieldLink RX7 47 "SongOffice" "standing" "LSongOffice$Ledger;", Cond.fieldLink RX7 105 "SongOffice$Ledger" "closed" "I", Cond.methodLink RX7 176 yX7_isTheTerm, Cond.instanceMethod yX7_isTheTerm, Cond.selects RX7 yX7_isTheTerm yX7_isTheTerm, Cond.code yX7_isTheTerm cX7_isTheTerm 2 (some .boolean), Cond.methodLink RX7 54 yX7_isWork, Cond.static yX7_isWork, Cond.code yX7_isWork cX7_isWork 1 (some .boolean), Cond.methodLink RX7 179 yX4_coinsOf, Cond.instanceMethod yX4_coinsOf, Cond.selects RX4 yX4_coinsOf yX4_coinsOf, Cond.initialized RX4, Cond.code yX4_coinsOf cX4_coinsOf 4 (some .int), Cond.fieldLink RX4 9 "SongOffice$ReportBook" "coins" "[I", Cond.methodLink RX7 183 yX4_wayOf, Cond.instanceMethod yX4_wayOf, Cond.selects RX4 yX4_wayOf yX4_wayOf]
def wsX7_told_r2 : List Cond := [Cond.code yX4_wayOf cX4_wayOf 3 (some .int), Cond.fieldLink RX4 15 "SongOffice$ReportBook" "ways" "[I", Cond.methodLink RX7 186 yX4_isOpen, Cond.instanceMethod yX4_isOpen, Cond.selects RX4 yX4_isOpen yX4_isOpen, Cond.code yX4_isOpen cX4_isOpen 3 (some .boolean), Cond.fieldLink RX4 27 "SongOffice$ReportBook" "openWorks" "[I", Cond.methodLink RX7 189 yX4_placeOf, Cond.instanceMethod yX4_placeOf, Cond.selects RX4 yX4_placeOf yX4_placeOf, Cond.code yX4_placeOf cX4_placeOf 4 (some .int), Cond.fieldLink RX4 18 "SongOffice$ReportBook" "places" "[I"]
def wsX7_told : List Cond := .code yX7_told cX7_told 5 (some .int) :: ((wsX7_told_r1 ++ wsX7_told_r2) ++ wsX70 ++ wsX20 ++ wsX40)
def wsX7_mend_r1 : List Cond := [Cond.fieldLink RX7 26 "SongOffice" "reports" "LSongOffice$ReportBook;", Cond.fieldLink RX7 51 "SongOffice" "anew" "LSongOffice$Ledger;", Cond.fieldLink RX7 105 "SongOffice$Ledger" "closed" "I", Cond.methodLink RX7 141 yX7_isClosed, Cond.instanceMethod yX7_isClosed, Cond.selects RX7 yX7_isClosed yX7_isClosed, Cond.initialized RX7, Cond.code yX7_isClosed cX7_isClosed 2 (some .boolean), Cond.fieldLink RX7 47 "SongOffice" "standing" "LSongOffice$Ledger;", Cond.methodLink RX7 108 yX7_reportFits, Cond.instanceMethod yX7_reportFits, Cond.selects RX7 yX7_reportFits yX7_reportFits, Cond.code yX7_reportFits cX7_reportFits 6 (some .boolean), Cond.fieldLink RX7 10 "SongOffice" "shares" "LSongOffice$ShareBook;", Cond.fieldLink RX7 82 "SongOffice$ShareBook" "sets" "[I", Cond.methodLink RX7 54 yX7_isWork, Cond.static yX7_isWork, Cond.code yX7_isWork cX7_isWork 1 (some .boolean), Cond.methodLink RX7 249 yX7_isTold, Cond.static yX7_isTold, Cond.code yX7_isTold cX7_isTold 1 (some .boolean), Cond.constant RX7 252 (1000000), Cond.methodLink RX7 112 yX4_put, Cond.instanceMethod yX4_put]
def wsX7_mend_r2 : List Cond := [Cond.selects RX4 yX4_put yX4_put, Cond.initialized RX4, Cond.code yX4_put cX4_put 8 none, Cond.fieldLink RX4 15 "SongOffice$ReportBook" "ways" "[I", Cond.fieldLink RX4 18 "SongOffice$ReportBook" "places" "[I", Cond.fieldLink RX4 24 "SongOffice$ReportBook" "sizes" "[I", Cond.fieldLink RX4 21 "SongOffice$ReportBook" "order" "[I", Cond.fieldLink RX4 9 "SongOffice$ReportBook" "coins" "[I", Cond.methodLink RX7 192 yX4_bringBack, Cond.instanceMethod yX4_bringBack, Cond.selects RX4 yX4_bringBack yX4_bringBack, Cond.code yX4_bringBack cX4_bringBack 3 none, Cond.fieldLink RX4 27 "SongOffice$ReportBook" "openWorks" "[I", Cond.methodLink RX7 195 yX2_clear, Cond.instanceMethod yX2_clear, Cond.selects RX2 yX2_clear yX2_clear, Cond.initialized RX2, Cond.code yX2_clear cX2_clear 1 none, Cond.fieldLink RX2 9 "SongOffice$Ledger" "purse" "[J", Cond.fieldLink RX2 15 "SongOffice$Ledger" "debt" "[J", Cond.fieldLink RX2 18 "SongOffice$Ledger" "filled" "[J", Cond.fieldLink RX2 21 "SongOffice$Ledger" "dues" "[I", Cond.fieldLink RX2 25 "SongOffice$Ledger" "kept" "[J", Cond.fieldLink RX2 28 "SongOffice$Ledger" "came" "[J"]
def wsX7_mend_r3 : List Cond := [Cond.fieldLink RX2 31 "SongOffice$Ledger" "bags" "[J", Cond.fieldLink RX2 74 "SongOffice$Ledger" "cameIn" "J", Cond.fieldLink RX2 78 "SongOffice$Ledger" "closed" "I", Cond.fieldLink RX2 82 "SongOffice$Ledger" "sentTaken" "I", Cond.methodLink RX2 65 yJ7_fill_d0a16, Cond.static yJ7_fill_d0a16, Cond.initialized RJ7, Cond.code yJ7_fill_d0a16 cJ7_fill_d0a16 5 none, Cond.methodLink RX2 71 yJ7_fill_53178, Cond.static yJ7_fill_53178, Cond.code yJ7_fill_53178 cJ7_fill_53178 4 none]
def wsX7_mend : List Cond := .code yX7_mend cX7_mend 7 (some .boolean) :: ((wsX7_mend_r1 ++ (wsX7_mend_r2 ++ wsX7_mend_r3)) ++ wsX70 ++ wsX20 ++ wsX60 ++ wsX40)
def wsX7_owe_r1 : List Cond := [Cond.fieldLink RX7 51 "SongOffice" "anew" "LSongOffice$Ledger;", Cond.fieldLink RX7 47 "SongOffice" "standing" "LSongOffice$Ledger;", Cond.fieldLink RX7 105 "SongOffice$Ledger" "closed" "I", Cond.methodLink RX7 133 yX2_reckonTo, Cond.instanceMethod yX2_reckonTo, Cond.selects RX2 yX2_reckonTo yX2_reckonTo, Cond.initialized RX2, Cond.code yX2_reckonTo cX2_reckonTo 4 none, Cond.methodLink RX2 85 Lib.Math.min.name, Cond.static Lib.Math.min.name, Cond.initialized "java/lang/Math", Cond.code Lib.Math.min.name Lib.Math.min.code 2 (some .int), Cond.fieldLink RX2 78 "SongOffice$Ledger" "closed" "I", Cond.methodLink RX2 91 yX2_takeSentOf, Cond.instanceMethod yX2_takeSentOf, Cond.selects RX2 yX2_takeSentOf yX2_takeSentOf, Cond.code yX2_takeSentOf cX2_takeSentOf 2 none, Cond.fieldLink RX2 82 "SongOffice$Ledger" "sentTaken" "I", Cond.fieldLink RX2 55 "SongOffice$Ledger" "sentBack" "LSongOffice$SentBook;", Cond.fieldLink RX2 124 "SongOffice$SentBook" "size" "I", Cond.fieldLink RX2 129 "SongOffice$SentBook" "terms" "[I", Cond.fieldLink RX2 132 "SongOffice$SentBook" "hands" "[I", Cond.fieldLink RX2 135 "SongOffice$SentBook" "coins" "[I", Cond.constantLong RX2 110 (1000000)]
def wsX7_owe_r2 : List Cond := [Cond.methodLink RX2 138 yX2_takeSent, Cond.instanceMethod yX2_takeSent, Cond.selects RX2 yX2_takeSent yX2_takeSent, Cond.code yX2_takeSent cX2_takeSent 10 none, Cond.fieldLink RX2 45 "SongOffice$Ledger" "bargains" "LSongOffice$BargainBook;", Cond.fieldLink RX2 142 "SongOffice$BargainBook" "size" "I", Cond.fieldLink RX2 31 "SongOffice$Ledger" "bags" "[J", Cond.methodLink RX2 147 Lib.MathLoose.min_long.x, Cond.static Lib.MathLoose.min_long.x, Cond.code Lib.MathLoose.min_long.x Lib.MathLoose.min_long.code 4 (some .long), Cond.fieldLink RX2 15 "SongOffice$Ledger" "debt" "[J", Cond.fieldLink RX2 150 "SongOffice$Ledger" "lacked" "J", Cond.methodLink RX2 143 yX0_isReserveOf, Cond.instanceMethod yX0_isReserveOf, Cond.selects RX0 yX0_isReserveOf yX0_isReserveOf, Cond.initialized RX0, Cond.code yX0_isReserveOf cX0_isReserveOf 3 (some .boolean), Cond.fieldLink RX0 9 "SongOffice$BargainBook" "kinds" "[I", Cond.fieldLink RX0 15 "SongOffice$BargainBook" "hands" "[I", Cond.methodLink RX2 94 yX2_closeTerm, Cond.instanceMethod yX2_closeTerm, Cond.selects RX2 yX2_closeTerm yX2_closeTerm, Cond.code yX2_closeTerm cX2_closeTerm 3 none, Cond.fieldLink RX2 61 "SongOffice$Ledger" "lines" "LSongOffice$LineBook;"]
def wsX7_owe_r3 : List Cond := [Cond.fieldLink RX2 153 "SongOffice$LineBook" "size" "I", Cond.fieldLink RX2 50 "SongOffice$Ledger" "reports" "LSongOffice$ReportBook;", Cond.methodLink RX2 154 yX4_sizeOf, Cond.instanceMethod yX4_sizeOf, Cond.selects RX4 yX4_sizeOf yX4_sizeOf, Cond.initialized RX4, Cond.code yX4_sizeOf cX4_sizeOf 2 (some .int), Cond.fieldLink RX4 24 "SongOffice$ReportBook" "sizes" "[I", Cond.methodLink RX2 160 yX4_workAt, Cond.instanceMethod yX4_workAt, Cond.selects RX4 yX4_workAt yX4_workAt, Cond.code yX4_workAt cX4_workAt 3 (some .int), Cond.fieldLink RX4 21 "SongOffice$ReportBook" "order" "[I", Cond.methodLink RX2 163 yX4_isOpen, Cond.instanceMethod yX4_isOpen, Cond.selects RX4 yX4_isOpen yX4_isOpen, Cond.code yX4_isOpen cX4_isOpen 3 (some .boolean), Cond.fieldLink RX4 27 "SongOffice$ReportBook" "openWorks" "[I", Cond.methodLink RX2 166 yX2_bringIn, Cond.instanceMethod yX2_bringIn, Cond.selects RX2 yX2_bringIn yX2_bringIn, Cond.code yX2_bringIn cX2_bringIn 10 none, Cond.fieldLink RX2 40 "SongOffice$Ledger" "shares" "LSongOffice$ShareBook;", Cond.fieldLink RX2 74 "SongOffice$Ledger" "cameIn" "J"]
def wsX7_owe_r4 : List Cond := [Cond.fieldLink RX2 194 "SongOffice$ShareBook" "parts" "[I", Cond.constantLong RX2 197 (1000), Cond.fieldLink RX2 199 "SongOffice$ShareBook" "hands" "[I", Cond.methodLink RX2 178 yX4_wayOf, Cond.instanceMethod yX4_wayOf, Cond.selects RX4 yX4_wayOf yX4_wayOf, Cond.code yX4_wayOf cX4_wayOf 3 (some .int), Cond.fieldLink RX4 15 "SongOffice$ReportBook" "ways" "[I", Cond.methodLink RX2 181 yX4_coinsOf, Cond.instanceMethod yX4_coinsOf, Cond.selects RX4 yX4_coinsOf yX4_coinsOf, Cond.code yX4_coinsOf cX4_coinsOf 4 (some .int), Cond.fieldLink RX4 9 "SongOffice$ReportBook" "coins" "[I", Cond.methodLink RX2 185 yX2_lastDay, Cond.instanceMethod yX2_lastDay, Cond.selects RX2 yX2_lastDay yX2_lastDay, Cond.code yX2_lastDay cX2_lastDay 1 (some .int), Cond.methodLink RX2 189 yX6_setAt, Cond.instanceMethod yX6_setAt, Cond.selects RX6 yX6_setAt yX6_setAt, Cond.initialized RX6, Cond.code yX6_setAt cX6_setAt 5 (some .int), Cond.fieldLink RX6 9 "SongOffice$ShareBook" "sets" "[I", Cond.fieldLink RX6 15 "SongOffice$ShareBook" "days" "[I"]
def wsX7_owe_r5 : List Cond := [Cond.methodLink RX2 200 yX2_runLine, Cond.instanceMethod yX2_runLine, Cond.selects RX2 yX2_runLine yX2_runLine, Cond.code yX2_runLine cX2_runLine 15 none, Cond.fieldLink RX2 116 "SongOffice$BargainBook" "kinds" "[I", Cond.fieldLink RX2 28 "SongOffice$Ledger" "came" "[J", Cond.fieldLink RX2 25 "SongOffice$Ledger" "kept" "[J", Cond.fieldLink RX2 220 "SongOffice$BargainBook" "takers" "[I", Cond.fieldLink RX2 9 "SongOffice$Ledger" "purse" "[J", Cond.methodLink RX2 204 yX3_begin, Cond.instanceMethod yX3_begin, Cond.selects RX3 yX3_begin yX3_begin, Cond.initialized RX3, Cond.code yX3_begin cX3_begin 7 (some .int), Cond.fieldLink RX3 36 "SongOffice$LineBook" "size" "I", Cond.fieldLink RX3 13 "SongOffice$LineBook" "room" "I", Cond.fieldLink RX3 19 "SongOffice$LineBook" "work" "[I", Cond.fieldLink RX3 23 "SongOffice$LineBook" "owner" "[I", Cond.fieldLink RX3 26 "SongOffice$LineBook" "from" "[I", Cond.fieldLink RX3 29 "SongOffice$LineBook" "began" "[J", Cond.static yX7_passesOn, Cond.initialized RX7, Cond.code yX7_passesOn cX7_passesOn 1 (some .boolean), Cond.methodLink RX2 212 yX0_holdsFor]
def wsX7_owe_r6 : List Cond := [Cond.instanceMethod yX0_holdsFor, Cond.selects RX0 yX0_holdsFor yX0_holdsFor, Cond.code yX0_holdsFor cX0_holdsFor 5 (some .boolean), Cond.fieldLink RX0 18 "SongOffice$BargainBook" "works" "[I", Cond.fieldLink RX0 21 "SongOffice$BargainBook" "days" "[I", Cond.methodLink RX2 216 yX2_takenBy, Cond.instanceMethod yX2_takenBy, Cond.selects RX2 yX2_takenBy yX2_takenBy, Cond.code yX2_takenBy cX2_takenBy 8 (some .long), Cond.fieldLink RX2 121 "SongOffice$BargainBook" "x" "[I", Cond.fieldLink RX2 226 "SongOffice$BargainBook" "y" "[I", Cond.methodLink RX2 229 Lib.MathLoose.max_long.x, Cond.static Lib.MathLoose.max_long.x, Cond.code Lib.MathLoose.max_long.x Lib.MathLoose.max_long.code 4 (some .long), Cond.fieldLink RX2 232 "SongOffice$BargainBook" "z" "[I", Cond.methodLink RX2 223 yX3_end, Cond.instanceMethod yX3_end, Cond.selects RX3 yX3_end yX3_end, Cond.code yX3_end cX3_end 4 none, Cond.fieldLink RX3 33 "SongOffice$LineBook" "ended" "[J", Cond.methodLink RX2 169 yX2_emptyOldBags, Cond.instanceMethod yX2_emptyOldBags, Cond.selects RX2 yX2_emptyOldBags yX2_emptyOldBags, Cond.code yX2_emptyOldBags cX2_emptyOldBags 3 none]
def wsX7_owe_r7 : List Cond := [Cond.fieldLink RX2 235 "SongOffice$BargainBook" "hands" "[I", Cond.methodLink RX2 172 yX2_payHands, Cond.instanceMethod yX2_payHands, Cond.selects RX2 yX2_payHands yX2_payHands, Cond.code yX2_payHands cX2_payHands 4 none, Cond.fieldLink RX2 21 "SongOffice$Ledger" "dues" "[I", Cond.methodLink RX2 175 yX2_fillFloors, Cond.instanceMethod yX2_fillFloors, Cond.selects RX2 yX2_fillFloors yX2_fillFloors, Cond.code yX2_fillFloors cX2_fillFloors 7 none, Cond.fieldLink RX2 236 "SongOffice$BargainBook" "days" "[I", Cond.fieldLink RX2 18 "SongOffice$Ledger" "filled" "[J", Cond.methodLink RX2 112 yX2_duesOf, Cond.instanceMethod yX2_duesOf, Cond.selects RX2 yX2_duesOf yX2_duesOf, Cond.code yX2_duesOf cX2_duesOf 7 (some .long), Cond.methodLink RX7 161 yX7_owedTo, Cond.instanceMethod yX7_owedTo, Cond.selects RX7 yX7_owedTo yX7_owedTo, Cond.code yX7_owedTo cX7_owedTo 2 (some .long), Cond.methodLink RX7 246 yX2_worth, Cond.instanceMethod yX2_worth, Cond.selects RX2 yX2_worth yX2_worth, Cond.code yX2_worth cX2_worth 2 (some .long)]
def wsX7_owe_r8 : List Cond := [Cond.methodLink RX2 107 yX2_allDues, Cond.instanceMethod yX2_allDues, Cond.selects RX2 yX2_allDues yX2_allDues, Cond.code yX2_allDues cX2_allDues 2 (some .long)]
def wsX7_owe : List Cond := .code yX7_owe cX7_owe 4 (some .long) :: ((wsX7_owe_r1 ++ (wsX7_owe_r2 ++ (wsX7_owe_r3 ++ (wsX7_owe_r4 ++ (wsX7_owe_r5 ++ (wsX7_owe_r6 ++ (wsX7_owe_r7 ++ wsX7_owe_r8))))))) ++ wsX70 ++ wsX20 ++ wsX50 ++ wsX00 ++ wsX30 ++ wsX40 ++ wsX60)
def wsX7_settle_r1 : List Cond := [Cond.fieldLink RX7 51 "SongOffice" "anew" "LSongOffice$Ledger;", Cond.fieldLink RX7 47 "SongOffice" "standing" "LSongOffice$Ledger;", Cond.fieldLink RX7 105 "SongOffice$Ledger" "closed" "I", Cond.fieldLink RX7 202 "SongOffice" "settled" "I", Cond.methodLink RX7 133 yX2_reckonTo, Cond.instanceMethod yX2_reckonTo, Cond.selects RX2 yX2_reckonTo yX2_reckonTo, Cond.initialized RX2, Cond.code yX2_reckonTo cX2_reckonTo 4 none, Cond.methodLink RX2 85 Lib.Math.min.name, Cond.static Lib.Math.min.name, Cond.initialized "java/lang/Math", Cond.code Lib.Math.min.name Lib.Math.min.code 2 (some .int), Cond.fieldLink RX2 78 "SongOffice$Ledger" "closed" "I", Cond.methodLink RX2 91 yX2_takeSentOf, Cond.instanceMethod yX2_takeSentOf, Cond.selects RX2 yX2_takeSentOf yX2_takeSentOf, Cond.code yX2_takeSentOf cX2_takeSentOf 2 none, Cond.fieldLink RX2 82 "SongOffice$Ledger" "sentTaken" "I", Cond.fieldLink RX2 55 "SongOffice$Ledger" "sentBack" "LSongOffice$SentBook;", Cond.fieldLink RX2 124 "SongOffice$SentBook" "size" "I", Cond.fieldLink RX2 129 "SongOffice$SentBook" "terms" "[I", Cond.fieldLink RX2 132 "SongOffice$SentBook" "hands" "[I", Cond.fieldLink RX2 135 "SongOffice$SentBook" "coins" "[I"]
def wsX7_settle_r2 : List Cond := [Cond.constantLong RX2 110 (1000000), Cond.methodLink RX2 138 yX2_takeSent, Cond.instanceMethod yX2_takeSent, Cond.selects RX2 yX2_takeSent yX2_takeSent, Cond.code yX2_takeSent cX2_takeSent 10 none, Cond.fieldLink RX2 45 "SongOffice$Ledger" "bargains" "LSongOffice$BargainBook;", Cond.fieldLink RX2 142 "SongOffice$BargainBook" "size" "I", Cond.fieldLink RX2 31 "SongOffice$Ledger" "bags" "[J", Cond.methodLink RX2 147 Lib.MathLoose.min_long.x, Cond.static Lib.MathLoose.min_long.x, Cond.code Lib.MathLoose.min_long.x Lib.MathLoose.min_long.code 4 (some .long), Cond.fieldLink RX2 15 "SongOffice$Ledger" "debt" "[J", Cond.fieldLink RX2 150 "SongOffice$Ledger" "lacked" "J", Cond.methodLink RX2 143 yX0_isReserveOf, Cond.instanceMethod yX0_isReserveOf, Cond.selects RX0 yX0_isReserveOf yX0_isReserveOf, Cond.initialized RX0, Cond.code yX0_isReserveOf cX0_isReserveOf 3 (some .boolean), Cond.fieldLink RX0 9 "SongOffice$BargainBook" "kinds" "[I", Cond.fieldLink RX0 15 "SongOffice$BargainBook" "hands" "[I", Cond.methodLink RX2 94 yX2_closeTerm, Cond.instanceMethod yX2_closeTerm, Cond.selects RX2 yX2_closeTerm yX2_closeTerm, Cond.code yX2_closeTerm cX2_closeTerm 3 none]
def wsX7_settle_r3 : List Cond := [Cond.fieldLink RX2 61 "SongOffice$Ledger" "lines" "LSongOffice$LineBook;", Cond.fieldLink RX2 153 "SongOffice$LineBook" "size" "I", Cond.fieldLink RX2 50 "SongOffice$Ledger" "reports" "LSongOffice$ReportBook;", Cond.methodLink RX2 154 yX4_sizeOf, Cond.instanceMethod yX4_sizeOf, Cond.selects RX4 yX4_sizeOf yX4_sizeOf, Cond.initialized RX4, Cond.code yX4_sizeOf cX4_sizeOf 2 (some .int), Cond.fieldLink RX4 24 "SongOffice$ReportBook" "sizes" "[I", Cond.methodLink RX2 160 yX4_workAt, Cond.instanceMethod yX4_workAt, Cond.selects RX4 yX4_workAt yX4_workAt, Cond.code yX4_workAt cX4_workAt 3 (some .int), Cond.fieldLink RX4 21 "SongOffice$ReportBook" "order" "[I", Cond.methodLink RX2 163 yX4_isOpen, Cond.instanceMethod yX4_isOpen, Cond.selects RX4 yX4_isOpen yX4_isOpen, Cond.code yX4_isOpen cX4_isOpen 3 (some .boolean), Cond.fieldLink RX4 27 "SongOffice$ReportBook" "openWorks" "[I", Cond.methodLink RX2 166 yX2_bringIn, Cond.instanceMethod yX2_bringIn, Cond.selects RX2 yX2_bringIn yX2_bringIn, Cond.code yX2_bringIn cX2_bringIn 10 none, Cond.fieldLink RX2 40 "SongOffice$Ledger" "shares" "LSongOffice$ShareBook;"]
def wsX7_settle_r4 : List Cond := [Cond.fieldLink RX2 74 "SongOffice$Ledger" "cameIn" "J", Cond.fieldLink RX2 194 "SongOffice$ShareBook" "parts" "[I", Cond.constantLong RX2 197 (1000), Cond.fieldLink RX2 199 "SongOffice$ShareBook" "hands" "[I", Cond.methodLink RX2 178 yX4_wayOf, Cond.instanceMethod yX4_wayOf, Cond.selects RX4 yX4_wayOf yX4_wayOf, Cond.code yX4_wayOf cX4_wayOf 3 (some .int), Cond.fieldLink RX4 15 "SongOffice$ReportBook" "ways" "[I", Cond.methodLink RX2 181 yX4_coinsOf, Cond.instanceMethod yX4_coinsOf, Cond.selects RX4 yX4_coinsOf yX4_coinsOf, Cond.code yX4_coinsOf cX4_coinsOf 4 (some .int), Cond.fieldLink RX4 9 "SongOffice$ReportBook" "coins" "[I", Cond.methodLink RX2 185 yX2_lastDay, Cond.instanceMethod yX2_lastDay, Cond.selects RX2 yX2_lastDay yX2_lastDay, Cond.code yX2_lastDay cX2_lastDay 1 (some .int), Cond.methodLink RX2 189 yX6_setAt, Cond.instanceMethod yX6_setAt, Cond.selects RX6 yX6_setAt yX6_setAt, Cond.initialized RX6, Cond.code yX6_setAt cX6_setAt 5 (some .int), Cond.fieldLink RX6 9 "SongOffice$ShareBook" "sets" "[I"]
def wsX7_settle_r5 : List Cond := [Cond.fieldLink RX6 15 "SongOffice$ShareBook" "days" "[I", Cond.methodLink RX2 200 yX2_runLine, Cond.instanceMethod yX2_runLine, Cond.selects RX2 yX2_runLine yX2_runLine, Cond.code yX2_runLine cX2_runLine 15 none, Cond.fieldLink RX2 116 "SongOffice$BargainBook" "kinds" "[I", Cond.fieldLink RX2 28 "SongOffice$Ledger" "came" "[J", Cond.fieldLink RX2 25 "SongOffice$Ledger" "kept" "[J", Cond.fieldLink RX2 220 "SongOffice$BargainBook" "takers" "[I", Cond.fieldLink RX2 9 "SongOffice$Ledger" "purse" "[J", Cond.methodLink RX2 204 yX3_begin, Cond.instanceMethod yX3_begin, Cond.selects RX3 yX3_begin yX3_begin, Cond.initialized RX3, Cond.code yX3_begin cX3_begin 7 (some .int), Cond.fieldLink RX3 36 "SongOffice$LineBook" "size" "I", Cond.fieldLink RX3 13 "SongOffice$LineBook" "room" "I", Cond.fieldLink RX3 19 "SongOffice$LineBook" "work" "[I", Cond.fieldLink RX3 23 "SongOffice$LineBook" "owner" "[I", Cond.fieldLink RX3 26 "SongOffice$LineBook" "from" "[I", Cond.fieldLink RX3 29 "SongOffice$LineBook" "began" "[J", Cond.static yX7_passesOn, Cond.initialized RX7, Cond.code yX7_passesOn cX7_passesOn 1 (some .boolean)]
def wsX7_settle_r6 : List Cond := [Cond.methodLink RX2 212 yX0_holdsFor, Cond.instanceMethod yX0_holdsFor, Cond.selects RX0 yX0_holdsFor yX0_holdsFor, Cond.code yX0_holdsFor cX0_holdsFor 5 (some .boolean), Cond.fieldLink RX0 18 "SongOffice$BargainBook" "works" "[I", Cond.fieldLink RX0 21 "SongOffice$BargainBook" "days" "[I", Cond.methodLink RX2 216 yX2_takenBy, Cond.instanceMethod yX2_takenBy, Cond.selects RX2 yX2_takenBy yX2_takenBy, Cond.code yX2_takenBy cX2_takenBy 8 (some .long), Cond.fieldLink RX2 121 "SongOffice$BargainBook" "x" "[I", Cond.fieldLink RX2 226 "SongOffice$BargainBook" "y" "[I", Cond.methodLink RX2 229 Lib.MathLoose.max_long.x, Cond.static Lib.MathLoose.max_long.x, Cond.code Lib.MathLoose.max_long.x Lib.MathLoose.max_long.code 4 (some .long), Cond.fieldLink RX2 232 "SongOffice$BargainBook" "z" "[I", Cond.methodLink RX2 223 yX3_end, Cond.instanceMethod yX3_end, Cond.selects RX3 yX3_end yX3_end, Cond.code yX3_end cX3_end 4 none, Cond.fieldLink RX3 33 "SongOffice$LineBook" "ended" "[J", Cond.methodLink RX2 169 yX2_emptyOldBags, Cond.instanceMethod yX2_emptyOldBags, Cond.selects RX2 yX2_emptyOldBags yX2_emptyOldBags]
def wsX7_settle_r7 : List Cond := [Cond.code yX2_emptyOldBags cX2_emptyOldBags 3 none, Cond.fieldLink RX2 235 "SongOffice$BargainBook" "hands" "[I", Cond.methodLink RX2 172 yX2_payHands, Cond.instanceMethod yX2_payHands, Cond.selects RX2 yX2_payHands yX2_payHands, Cond.code yX2_payHands cX2_payHands 4 none, Cond.fieldLink RX2 21 "SongOffice$Ledger" "dues" "[I", Cond.methodLink RX2 175 yX2_fillFloors, Cond.instanceMethod yX2_fillFloors, Cond.selects RX2 yX2_fillFloors yX2_fillFloors, Cond.code yX2_fillFloors cX2_fillFloors 7 none, Cond.fieldLink RX2 236 "SongOffice$BargainBook" "days" "[I", Cond.fieldLink RX2 18 "SongOffice$Ledger" "filled" "[J", Cond.methodLink RX2 112 yX2_duesOf, Cond.instanceMethod yX2_duesOf, Cond.selects RX2 yX2_duesOf yX2_duesOf, Cond.code yX2_duesOf cX2_duesOf 7 (some .long), Cond.methodLink RX7 161 yX7_owedTo, Cond.instanceMethod yX7_owedTo, Cond.selects RX7 yX7_owedTo yX7_owedTo, Cond.code yX7_owedTo cX7_owedTo 2 (some .long), Cond.methodLink RX7 246 yX2_worth, Cond.instanceMethod yX2_worth, Cond.selects RX2 yX2_worth yX2_worth]
def wsX7_settle_r8 : List Cond := [Cond.code yX2_worth cX2_worth 2 (some .long), Cond.methodLink RX2 107 yX2_allDues, Cond.instanceMethod yX2_allDues, Cond.selects RX2 yX2_allDues yX2_allDues, Cond.code yX2_allDues cX2_allDues 2 (some .long), Cond.methodLink RX7 198 yX2_becomeLike, Cond.instanceMethod yX2_becomeLike, Cond.selects RX2 yX2_becomeLike yX2_becomeLike, Cond.code yX2_becomeLike cX2_becomeLike 5 none, Cond.methodLink RX2 101 arraycopyName, Cond.native arraycopyName, Cond.static arraycopyName, Cond.initialized "java/lang/System", Cond.methodLink RX2 97 yX2_worth]
def wsX7_settle : List Cond := .code yX7_settle cX7_settle 3 (some .int) :: ((wsX7_settle_r1 ++ (wsX7_settle_r2 ++ (wsX7_settle_r3 ++ (wsX7_settle_r4 ++ (wsX7_settle_r5 ++ (wsX7_settle_r6 ++ (wsX7_settle_r7 ++ wsX7_settle_r8))))))) ++ wsX70 ++ wsX20 ++ wsX50 ++ wsX00 ++ wsX30 ++ wsX40 ++ wsX60)
def wsX7_line : List Cond := .code yX7_line cX7_line 4 (some .long) :: ([.fieldLink RX7 47 "SongOffice" "standing" "LSongOffice$Ledger;", .fieldLink RX7 205 "SongOffice$Ledger" "lines" "LSongOffice$LineBook;", .constantLong RX7 128 (-1), .fieldLink RX7 214 "SongOffice$LineBook" "work" "[I", .fieldLink RX7 217 "SongOffice$LineBook" "owner" "[I", .fieldLink RX7 220 "SongOffice$LineBook" "from" "[I", .fieldLink RX7 223 "SongOffice$LineBook" "began" "[J", .fieldLink RX7 226 "SongOffice$LineBook" "ended" "[J", .methodLink RX7 209 yX3_kept, .instanceMethod yX3_kept, .selects RX3 yX3_kept yX3_kept, .initialized RX3, .code yX3_kept cX3_kept 1 (some .int), .fieldLink RX3 36 "SongOffice$LineBook" "size" "I", .fieldLink RX3 13 "SongOffice$LineBook" "room" "I", .methodLink RX3 39 Lib.Math.min.name, .static Lib.Math.min.name, .initialized "java/lang/Math", .code Lib.Math.min.name Lib.Math.min.code 2 (some .int)] ++ wsX70 ++ wsX20 ++ wsX30)
def wsX7_count_r1 : List Cond := [Cond.fieldLink RX7 47 "SongOffice" "standing" "LSongOffice$Ledger;", Cond.fieldLink RX7 105 "SongOffice$Ledger" "closed" "I", Cond.fieldLink RX7 19 "SongOffice" "bargains" "LSongOffice$BargainBook;", Cond.fieldLink RX7 86 "SongOffice$BargainBook" "size" "I", Cond.fieldLink RX7 205 "SongOffice$Ledger" "lines" "LSongOffice$LineBook;", Cond.fieldLink RX7 229 "SongOffice$LineBook" "size" "I", Cond.fieldLink RX7 230 "SongOffice$Ledger" "cameIn" "J", Cond.fieldLink RX7 33 "SongOffice" "sentBack" "LSongOffice$SentBook;", Cond.fieldLink RX7 237 "SongOffice$SentBook" "coinsInAll" "J", Cond.constantLong RX7 240 (1000000), Cond.fieldLink RX7 26 "SongOffice" "reports" "LSongOffice$ReportBook;", Cond.constantLong RX7 128 (-1), Cond.fieldLink RX7 202 "SongOffice" "settled" "I", Cond.methodLink RX7 233 yX2_allFilled, Cond.instanceMethod yX2_allFilled, Cond.selects RX2 yX2_allFilled yX2_allFilled, Cond.initialized RX2, Cond.code yX2_allFilled cX2_allFilled 4 (some .long), Cond.fieldLink RX2 18 "SongOffice$Ledger" "filled" "[J", Cond.methodLink RX7 242 yX4_tornAt, Cond.instanceMethod yX4_tornAt, Cond.selects RX4 yX4_tornAt yX4_tornAt, Cond.initialized RX4, Cond.code yX4_tornAt cX4_tornAt 2 (some .int)]
def wsX7_count_r2 : List Cond := [Cond.fieldLink RX4 27 "SongOffice$ReportBook" "openWorks" "[I", Cond.methodLink RX4 30 yJ6_bitCount_0f7a4, Cond.static yJ6_bitCount_0f7a4, Cond.initialized RJ6, Cond.code yJ6_bitCount_0f7a4 cJ6_bitCount_0f7a4 1 (some .int), Cond.constant RJ6 265 (1431655765), Cond.constant RJ6 266 (858993459), Cond.constant RJ6 267 (252645135)]
def wsX7_count : List Cond := .code yX7_count cX7_count 2 (some .long) :: ((wsX7_count_r1 ++ wsX7_count_r2) ++ wsX70 ++ wsX20 ++ wsX00 ++ wsX30 ++ wsX50 ++ wsX40)
def wsX8_init_r1 : List Cond := [Cond.methodLink RX8 1 objectInit, Cond.instanceMethod objectInit, Cond.code objectInit ⟨#[0xb1]⟩ 1 none, Cond.arrayClass .int, Cond.fieldLink RX8 7 "SongOfficeModel" "setMany" "[I", Cond.fieldLink RX8 13 "SongOfficeModel" "setDay" "[I", Cond.fieldLink RX8 16 "SongOfficeModel" "setHand" "[I", Cond.fieldLink RX8 19 "SongOfficeModel" "setPart" "[I", Cond.fieldLink RX8 22 "SongOfficeModel" "kind" "[I", Cond.fieldLink RX8 25 "SongOfficeModel" "hand" "[I", Cond.fieldLink RX8 28 "SongOfficeModel" "works" "[I", Cond.fieldLink RX8 31 "SongOfficeModel" "since" "[I", Cond.fieldLink RX8 34 "SongOfficeModel" "bx" "[I", Cond.fieldLink RX8 37 "SongOfficeModel" "by" "[I", Cond.fieldLink RX8 40 "SongOfficeModel" "bz" "[I", Cond.fieldLink RX8 43 "SongOfficeModel" "taker" "[I", Cond.fieldLink RX8 46 "SongOfficeModel" "first" "[I", Cond.fieldLink RX8 49 "SongOfficeModel" "second" "[I", Cond.fieldLink RX8 52 "SongOfficeModel" "third" "[I", Cond.fieldLink RX8 55 "SongOfficeModel" "how" "[I", Cond.fieldLink RX8 58 "SongOfficeModel" "order" "[I", Cond.fieldLink RX8 61 "SongOfficeModel" "orderMany" "[I", Cond.fieldLink RX8 64 "SongOfficeModel" "torn" "[I", Cond.arrayClass .boolean]
def wsX8_init_r2 : List Cond := [Cond.fieldLink RX8 67 "SongOfficeModel" "mended" "[Z", Cond.arrayClass .long, Cond.fieldLink RX8 71 "SongOfficeModel" "purse" "[J", Cond.fieldLink RX8 75 "SongOfficeModel" "debt" "[J", Cond.fieldLink RX8 78 "SongOfficeModel" "kept" "[J", Cond.fieldLink RX8 81 "SongOfficeModel" "came" "[J", Cond.fieldLink RX8 84 "SongOfficeModel" "bags" "[J", Cond.fieldLink RX8 87 "SongOfficeModel" "dues" "[I", Cond.fieldLink RX8 90 "SongOfficeModel" "filled" "[I", Cond.fieldLink RX8 93 "SongOfficeModel" "cameIn" "[J", Cond.fieldLink RX8 96 "SongOfficeModel" "lineHand" "[I", Cond.fieldLink RX8 99 "SongOfficeModel" "lineNext" "[I", Cond.fieldLink RX8 102 "SongOfficeModel" "lineTold" "[I", Cond.fieldLink RX8 105 "SongOfficeModel" "lineLeft" "[J", Cond.fieldLink RX8 108 "SongOfficeModel" "toldWork" "[I", Cond.fieldLink RX8 111 "SongOfficeModel" "toldHand" "[I", Cond.fieldLink RX8 114 "SongOfficeModel" "toldFrom" "[I", Cond.fieldLink RX8 117 "SongOfficeModel" "toldMites" "[J", Cond.fieldLink RX8 120 "SongOfficeModel" "toldPurse" "[J", Cond.fieldLink RX8 123 "SongOfficeModel" "sentHand" "[I", Cond.fieldLink RX8 126 "SongOfficeModel" "sentCoins" "[I", Cond.fieldLink RX8 129 "SongOfficeModel" "sentTerm" "[I"]
def wsX8_init : List Cond := .code yX8_init cX8_init 2 none :: ((wsX8_init_r1 ++ wsX8_init_r2) ++ wsX80)
def wsX8_isHand : List Cond := .code yX8_isHand cX8_isHand 1 (some .boolean) :: ([])
def wsX8_isWork : List Cond := .code yX8_isWork cX8_isWork 1 (some .boolean) :: ([])
def wsX8_isPart : List Cond := .code yX8_isPart cX8_isPart 2 (some .boolean) :: ([.methodLink RX8 132 yX8_isHand, .static yX8_isHand, .initialized RX8, .code yX8_isHand cX8_isHand 1 (some .boolean)])
def wsX8_isDay : List Cond := .code yX8_isDay cX8_isDay 2 (some .boolean) :: ([.fieldLink RX8 136 "SongOfficeModel" "term" "I"] ++ wsX80)
def wsX8_share : List Cond := .code yX8_share cX8_share 11 (some .int) :: ([.fieldLink RX8 7 "SongOfficeModel" "setMany" "[I", .fieldLink RX8 13 "SongOfficeModel" "setDay" "[I", .fieldLink RX8 16 "SongOfficeModel" "setHand" "[I", .fieldLink RX8 19 "SongOfficeModel" "setPart" "[I", .methodLink RX8 140 yX8_isWork, .static yX8_isWork, .initialized RX8, .code yX8_isWork cX8_isWork 1 (some .boolean), .methodLink RX8 132 yX8_isHand, .static yX8_isHand, .code yX8_isHand cX8_isHand 1 (some .boolean), .methodLink RX8 143 yX8_isPart, .static yX8_isPart, .code yX8_isPart cX8_isPart 2 (some .boolean), .methodLink RX8 147 yX8_isDay, .instanceMethod yX8_isDay, .selects RX8 yX8_isDay yX8_isDay, .code yX8_isDay cX8_isDay 2 (some .boolean), .fieldLink RX8 136 "SongOfficeModel" "term" "I"] ++ wsX80)
def wsX8_setOn : List Cond := .code yX8_setOn cX8_setOn 5 (some .int) :: ([.fieldLink RX8 7 "SongOfficeModel" "setMany" "[I", .fieldLink RX8 13 "SongOfficeModel" "setDay" "[I"] ++ wsX80)
def wsX8_isSum : List Cond := .code yX8_isSum cX8_isSum 1 (some .boolean) :: ([.constant RX8 150 (1000000)])
def wsX8_isThousandth : List Cond := .code yX8_isThousandth cX8_isThousandth 1 (some .boolean) :: ([])
def wsX8_areGood : List Cond := .code yX8_areGood cX8_areGood 7 (some .boolean) :: ([.methodLink RX8 132 yX8_isHand, .static yX8_isHand, .initialized RX8, .code yX8_isHand cX8_isHand 1 (some .boolean), .methodLink RX8 151 yX8_isThousandth, .static yX8_isThousandth, .code yX8_isThousandth cX8_isThousandth 1 (some .boolean), .methodLink RX8 154 yX8_isSum, .static yX8_isSum, .code yX8_isSum cX8_isSum 1 (some .boolean), .constant RX8 150 (1000000)])
def wsX8_bargain_r1 : List Cond := [Cond.fieldLink RX8 157 "SongOfficeModel" "bargains" "I", Cond.fieldLink RX8 22 "SongOfficeModel" "kind" "[I", Cond.fieldLink RX8 25 "SongOfficeModel" "hand" "[I", Cond.fieldLink RX8 28 "SongOfficeModel" "works" "[I", Cond.fieldLink RX8 31 "SongOfficeModel" "since" "[I", Cond.fieldLink RX8 34 "SongOfficeModel" "bx" "[I", Cond.fieldLink RX8 37 "SongOfficeModel" "by" "[I", Cond.fieldLink RX8 40 "SongOfficeModel" "bz" "[I", Cond.fieldLink RX8 43 "SongOfficeModel" "taker" "[I", Cond.methodLink RX8 132 yX8_isHand, Cond.static yX8_isHand, Cond.initialized RX8, Cond.code yX8_isHand cX8_isHand 1 (some .boolean), Cond.methodLink RX8 147 yX8_isDay, Cond.instanceMethod yX8_isDay, Cond.selects RX8 yX8_isDay yX8_isDay, Cond.code yX8_isDay cX8_isDay 2 (some .boolean), Cond.fieldLink RX8 136 "SongOfficeModel" "term" "I", Cond.methodLink RX8 160 yX8_areGood, Cond.static yX8_areGood, Cond.code yX8_areGood cX8_areGood 7 (some .boolean), Cond.methodLink RX8 151 yX8_isThousandth, Cond.static yX8_isThousandth, Cond.code yX8_isThousandth cX8_isThousandth 1 (some .boolean)]
def wsX8_bargain_r2 : List Cond := [Cond.methodLink RX8 154 yX8_isSum, Cond.static yX8_isSum, Cond.code yX8_isSum cX8_isSum 1 (some .boolean), Cond.constant RX8 150 (1000000)]
def wsX8_bargain : List Cond := .code yX8_bargain cX8_bargain 10 (some .int) :: ((wsX8_bargain_r1 ++ wsX8_bargain_r2) ++ wsX80)
def wsX8_areCoins : List Cond := .code yX8_areCoins cX8_areCoins 1 (some .boolean) :: ([.constant RX8 150 (1000000)])
def wsX8_isReport : List Cond := .code yX8_isReport cX8_isReport 6 (some .boolean) :: ([.fieldLink RX8 7 "SongOfficeModel" "setMany" "[I", .methodLink RX8 140 yX8_isWork, .static yX8_isWork, .initialized RX8, .code yX8_isWork cX8_isWork 1 (some .boolean), .methodLink RX8 164 yX8_areCoins, .static yX8_areCoins, .code yX8_areCoins cX8_areCoins 1 (some .boolean), .constant RX8 150 (1000000)] ++ wsX80)
def wsX8_puts : List Cond := .code yX8_puts cX8_puts 8 none :: ([.fieldLink RX8 55 "SongOfficeModel" "how" "[I", .fieldLink RX8 58 "SongOfficeModel" "order" "[I", .fieldLink RX8 61 "SongOfficeModel" "orderMany" "[I", .fieldLink RX8 46 "SongOfficeModel" "first" "[I", .fieldLink RX8 49 "SongOfficeModel" "second" "[I", .fieldLink RX8 52 "SongOfficeModel" "third" "[I"] ++ wsX80)
def wsX8_report : List Cond := .code yX8_report cX8_report 6 (some .boolean) :: ([.fieldLink RX8 136 "SongOfficeModel" "term" "I", .methodLink RX8 167 yX8_isReport, .instanceMethod yX8_isReport, .selects RX8 yX8_isReport yX8_isReport, .initialized RX8, .code yX8_isReport cX8_isReport 6 (some .boolean), .fieldLink RX8 7 "SongOfficeModel" "setMany" "[I", .methodLink RX8 140 yX8_isWork, .static yX8_isWork, .code yX8_isWork cX8_isWork 1 (some .boolean), .methodLink RX8 164 yX8_areCoins, .static yX8_areCoins, .code yX8_areCoins cX8_areCoins 1 (some .boolean), .constant RX8 150 (1000000), .methodLink RX8 171 yX8_puts, .instanceMethod yX8_puts, .selects RX8 yX8_puts yX8_puts, .code yX8_puts cX8_puts 8 none, .fieldLink RX8 55 "SongOfficeModel" "how" "[I", .fieldLink RX8 58 "SongOfficeModel" "order" "[I", .fieldLink RX8 61 "SongOfficeModel" "orderMany" "[I", .fieldLink RX8 46 "SongOfficeModel" "first" "[I", .fieldLink RX8 49 "SongOfficeModel" "second" "[I", .fieldLink RX8 52 "SongOfficeModel" "third" "[I"] ++ wsX80)
def wsX8_mend_r1 : List Cond := [Cond.fieldLink RX8 136 "SongOfficeModel" "term" "I", Cond.fieldLink RX8 67 "SongOfficeModel" "mended" "[Z", Cond.methodLink RX8 167 yX8_isReport, Cond.instanceMethod yX8_isReport, Cond.selects RX8 yX8_isReport yX8_isReport, Cond.initialized RX8, Cond.code yX8_isReport cX8_isReport 6 (some .boolean), Cond.fieldLink RX8 7 "SongOfficeModel" "setMany" "[I", Cond.methodLink RX8 140 yX8_isWork, Cond.static yX8_isWork, Cond.code yX8_isWork cX8_isWork 1 (some .boolean), Cond.methodLink RX8 164 yX8_areCoins, Cond.static yX8_areCoins, Cond.code yX8_areCoins cX8_areCoins 1 (some .boolean), Cond.constant RX8 150 (1000000), Cond.methodLink RX8 171 yX8_puts, Cond.instanceMethod yX8_puts, Cond.selects RX8 yX8_puts yX8_puts, Cond.code yX8_puts cX8_puts 8 none, Cond.fieldLink RX8 55 "SongOfficeModel" "how" "[I", Cond.fieldLink RX8 58 "SongOfficeModel" "order" "[I", Cond.fieldLink RX8 61 "SongOfficeModel" "orderMany" "[I", Cond.fieldLink RX8 46 "SongOfficeModel" "first" "[I", Cond.fieldLink RX8 49 "SongOfficeModel" "second" "[I"]
def wsX8_mend_r2 : List Cond := [Cond.fieldLink RX8 52 "SongOfficeModel" "third" "[I"]
def wsX8_mend : List Cond := .code yX8_mend cX8_mend 7 (some .boolean) :: ((wsX8_mend_r1 ++ wsX8_mend_r2) ++ wsX80)
def wsX8_tear : List Cond := .code yX8_tear cX8_tear 2 (some .boolean) :: ([.fieldLink RX8 136 "SongOfficeModel" "term" "I", .fieldLink RX8 64 "SongOfficeModel" "torn" "[I"] ++ wsX80)
def wsX8_isOpen : List Cond := .code yX8_isOpen cX8_isOpen 3 (some .boolean) :: ([.fieldLink RX8 64 "SongOfficeModel" "torn" "[I", .fieldLink RX8 67 "SongOfficeModel" "mended" "[Z"] ++ wsX80)
def wsX8_told : List Cond := .code yX8_told cX8_told 6 (some .int) :: ([.fieldLink RX8 136 "SongOfficeModel" "term" "I", .fieldLink RX8 46 "SongOfficeModel" "first" "[I", .fieldLink RX8 49 "SongOfficeModel" "second" "[I", .fieldLink RX8 52 "SongOfficeModel" "third" "[I", .fieldLink RX8 55 "SongOfficeModel" "how" "[I", .fieldLink RX8 61 "SongOfficeModel" "orderMany" "[I", .fieldLink RX8 58 "SongOfficeModel" "order" "[I", .methodLink RX8 140 yX8_isWork, .static yX8_isWork, .initialized RX8, .code yX8_isWork cX8_isWork 1 (some .boolean), .methodLink RX8 175 yX8_isOpen, .instanceMethod yX8_isOpen, .selects RX8 yX8_isOpen yX8_isOpen, .code yX8_isOpen cX8_isOpen 3 (some .boolean), .fieldLink RX8 64 "SongOfficeModel" "torn" "[I", .fieldLink RX8 67 "SongOfficeModel" "mended" "[Z"] ++ wsX80)
def wsX8_empties : List Cond := .code yX8_empties cX8_empties 2 none :: ([.fieldLink RX8 71 "SongOfficeModel" "purse" "[J", .fieldLink RX8 75 "SongOfficeModel" "debt" "[J", .fieldLink RX8 90 "SongOfficeModel" "filled" "[I", .fieldLink RX8 78 "SongOfficeModel" "kept" "[J", .fieldLink RX8 81 "SongOfficeModel" "came" "[J", .fieldLink RX8 84 "SongOfficeModel" "bags" "[J", .fieldLink RX8 87 "SongOfficeModel" "dues" "[I", .fieldLink RX8 93 "SongOfficeModel" "cameIn" "[J"] ++ wsX80)
def wsX8_bag : List Cond := .code yX8_bag cX8_bag 3 (some .int) :: ([])
def wsX8_dueAt : List Cond := .code yX8_dueAt cX8_dueAt 3 (some .int) :: ([])
def wsX8_begins : List Cond := .code yX8_begins cX8_begins 8 none :: ([.fieldLink RX8 178 "SongOfficeModel" "lines" "I", .fieldLink RX8 108 "SongOfficeModel" "toldWork" "[I", .fieldLink RX8 111 "SongOfficeModel" "toldHand" "[I", .fieldLink RX8 114 "SongOfficeModel" "toldFrom" "[I", .fieldLink RX8 117 "SongOfficeModel" "toldMites" "[J", .fieldLink RX8 120 "SongOfficeModel" "toldPurse" "[J", .fieldLink RX8 96 "SongOfficeModel" "lineHand" "[I", .fieldLink RX8 181 "SongOfficeModel" "deep" "I", .fieldLink RX8 99 "SongOfficeModel" "lineNext" "[I", .fieldLink RX8 105 "SongOfficeModel" "lineLeft" "[J", .fieldLink RX8 102 "SongOfficeModel" "lineTold" "[I"] ++ wsX80)
def wsX8_meets_r1 : List Cond := [Cond.fieldLink RX8 105 "SongOfficeModel" "lineLeft" "[J", Cond.fieldLink RX8 22 "SongOfficeModel" "kind" "[I", Cond.fieldLink RX8 34 "SongOfficeModel" "bx" "[I", Cond.constantLong RX8 192 (1000), Cond.fieldLink RX8 37 "SongOfficeModel" "by" "[I", Cond.constantLong RX8 194 (1000000), Cond.fieldLink RX8 81 "SongOfficeModel" "came" "[J", Cond.fieldLink RX8 40 "SongOfficeModel" "bz" "[I", Cond.fieldLink RX8 78 "SongOfficeModel" "kept" "[J", Cond.fieldLink RX8 84 "SongOfficeModel" "bags" "[J", Cond.fieldLink RX8 43 "SongOfficeModel" "taker" "[I", Cond.methodLink RX8 196 yX8_bag, Cond.static yX8_bag, Cond.initialized RX8, Cond.code yX8_bag cX8_bag 3 (some .int), Cond.methodLink RX8 184 yX8_begins, Cond.instanceMethod yX8_begins, Cond.selects RX8 yX8_begins yX8_begins, Cond.code yX8_begins cX8_begins 8 none, Cond.fieldLink RX8 178 "SongOfficeModel" "lines" "I", Cond.fieldLink RX8 108 "SongOfficeModel" "toldWork" "[I", Cond.fieldLink RX8 111 "SongOfficeModel" "toldHand" "[I", Cond.fieldLink RX8 114 "SongOfficeModel" "toldFrom" "[I", Cond.fieldLink RX8 117 "SongOfficeModel" "toldMites" "[J"]
def wsX8_meets_r2 : List Cond := [Cond.fieldLink RX8 120 "SongOfficeModel" "toldPurse" "[J", Cond.fieldLink RX8 96 "SongOfficeModel" "lineHand" "[I", Cond.fieldLink RX8 181 "SongOfficeModel" "deep" "I", Cond.fieldLink RX8 99 "SongOfficeModel" "lineNext" "[I", Cond.fieldLink RX8 102 "SongOfficeModel" "lineTold" "[I"]
def wsX8_meets : List Cond := .code yX8_meets cX8_meets 13 none :: ((wsX8_meets_r1 ++ wsX8_meets_r2) ++ wsX80)
def wsX8_goes_r1 : List Cond := [Cond.fieldLink RX8 181 "SongOfficeModel" "deep" "I", Cond.fieldLink RX8 93 "SongOfficeModel" "cameIn" "[J", Cond.fieldLink RX8 99 "SongOfficeModel" "lineNext" "[I", Cond.fieldLink RX8 157 "SongOfficeModel" "bargains" "I", Cond.fieldLink RX8 105 "SongOfficeModel" "lineLeft" "[J", Cond.fieldLink RX8 96 "SongOfficeModel" "lineHand" "[I", Cond.fieldLink RX8 71 "SongOfficeModel" "purse" "[J", Cond.fieldLink RX8 102 "SongOfficeModel" "lineTold" "[I", Cond.fieldLink RX8 120 "SongOfficeModel" "toldPurse" "[J", Cond.fieldLink RX8 25 "SongOfficeModel" "hand" "[I", Cond.fieldLink RX8 28 "SongOfficeModel" "works" "[I", Cond.fieldLink RX8 31 "SongOfficeModel" "since" "[I", Cond.methodLink RX8 184 yX8_begins, Cond.instanceMethod yX8_begins, Cond.selects RX8 yX8_begins yX8_begins, Cond.initialized RX8, Cond.code yX8_begins cX8_begins 8 none, Cond.fieldLink RX8 178 "SongOfficeModel" "lines" "I", Cond.fieldLink RX8 108 "SongOfficeModel" "toldWork" "[I", Cond.fieldLink RX8 111 "SongOfficeModel" "toldHand" "[I", Cond.fieldLink RX8 114 "SongOfficeModel" "toldFrom" "[I", Cond.fieldLink RX8 117 "SongOfficeModel" "toldMites" "[J", Cond.methodLink RX8 188 yX8_meets, Cond.instanceMethod yX8_meets]
def wsX8_goes_r2 : List Cond := [Cond.selects RX8 yX8_meets yX8_meets, Cond.code yX8_meets cX8_meets 13 none, Cond.fieldLink RX8 22 "SongOfficeModel" "kind" "[I", Cond.fieldLink RX8 34 "SongOfficeModel" "bx" "[I", Cond.constantLong RX8 192 (1000), Cond.fieldLink RX8 37 "SongOfficeModel" "by" "[I", Cond.constantLong RX8 194 (1000000), Cond.fieldLink RX8 81 "SongOfficeModel" "came" "[J", Cond.fieldLink RX8 40 "SongOfficeModel" "bz" "[I", Cond.fieldLink RX8 78 "SongOfficeModel" "kept" "[J", Cond.fieldLink RX8 84 "SongOfficeModel" "bags" "[J", Cond.fieldLink RX8 43 "SongOfficeModel" "taker" "[I", Cond.methodLink RX8 196 yX8_bag, Cond.static yX8_bag, Cond.code yX8_bag cX8_bag 3 (some .int)]
def wsX8_goes : List Cond := .code yX8_goes cX8_goes 10 none :: ((wsX8_goes_r1 ++ wsX8_goes_r2) ++ wsX80)
def wsX8_comes_r1 : List Cond := [Cond.fieldLink RX8 16 "SongOfficeModel" "setHand" "[I", Cond.fieldLink RX8 19 "SongOfficeModel" "setPart" "[I", Cond.constantLong RX8 192 (1000), Cond.methodLink RX8 200 yX8_setOn, Cond.instanceMethod yX8_setOn, Cond.selects RX8 yX8_setOn yX8_setOn, Cond.initialized RX8, Cond.code yX8_setOn cX8_setOn 5 (some .int), Cond.fieldLink RX8 7 "SongOfficeModel" "setMany" "[I", Cond.fieldLink RX8 13 "SongOfficeModel" "setDay" "[I", Cond.methodLink RX8 204 yX8_goes, Cond.instanceMethod yX8_goes, Cond.selects RX8 yX8_goes yX8_goes, Cond.code yX8_goes cX8_goes 10 none, Cond.fieldLink RX8 181 "SongOfficeModel" "deep" "I", Cond.fieldLink RX8 93 "SongOfficeModel" "cameIn" "[J", Cond.fieldLink RX8 99 "SongOfficeModel" "lineNext" "[I", Cond.fieldLink RX8 157 "SongOfficeModel" "bargains" "I", Cond.fieldLink RX8 105 "SongOfficeModel" "lineLeft" "[J", Cond.fieldLink RX8 96 "SongOfficeModel" "lineHand" "[I", Cond.fieldLink RX8 71 "SongOfficeModel" "purse" "[J", Cond.fieldLink RX8 102 "SongOfficeModel" "lineTold" "[I", Cond.fieldLink RX8 120 "SongOfficeModel" "toldPurse" "[J", Cond.fieldLink RX8 25 "SongOfficeModel" "hand" "[I"]
def wsX8_comes_r2 : List Cond := [Cond.fieldLink RX8 28 "SongOfficeModel" "works" "[I", Cond.fieldLink RX8 31 "SongOfficeModel" "since" "[I", Cond.methodLink RX8 184 yX8_begins, Cond.instanceMethod yX8_begins, Cond.selects RX8 yX8_begins yX8_begins, Cond.code yX8_begins cX8_begins 8 none, Cond.fieldLink RX8 178 "SongOfficeModel" "lines" "I", Cond.fieldLink RX8 108 "SongOfficeModel" "toldWork" "[I", Cond.fieldLink RX8 111 "SongOfficeModel" "toldHand" "[I", Cond.fieldLink RX8 114 "SongOfficeModel" "toldFrom" "[I", Cond.fieldLink RX8 117 "SongOfficeModel" "toldMites" "[J", Cond.methodLink RX8 188 yX8_meets, Cond.instanceMethod yX8_meets, Cond.selects RX8 yX8_meets yX8_meets, Cond.code yX8_meets cX8_meets 13 none, Cond.fieldLink RX8 22 "SongOfficeModel" "kind" "[I", Cond.fieldLink RX8 34 "SongOfficeModel" "bx" "[I", Cond.fieldLink RX8 37 "SongOfficeModel" "by" "[I", Cond.constantLong RX8 194 (1000000), Cond.fieldLink RX8 81 "SongOfficeModel" "came" "[J", Cond.fieldLink RX8 40 "SongOfficeModel" "bz" "[I", Cond.fieldLink RX8 78 "SongOfficeModel" "kept" "[J", Cond.fieldLink RX8 84 "SongOfficeModel" "bags" "[J", Cond.fieldLink RX8 43 "SongOfficeModel" "taker" "[I"]
def wsX8_comes_r3 : List Cond := [Cond.methodLink RX8 196 yX8_bag, Cond.static yX8_bag, Cond.code yX8_bag cX8_bag 3 (some .int)]
def wsX8_comes : List Cond := .code yX8_comes cX8_comes 9 none :: ((wsX8_comes_r1 ++ (wsX8_comes_r2 ++ wsX8_comes_r3)) ++ wsX80)
def wsX8_pays : List Cond := .code yX8_pays cX8_pays 7 none :: ([.fieldLink RX8 75 "SongOfficeModel" "debt" "[J", .fieldLink RX8 71 "SongOfficeModel" "purse" "[J", .constantLong RX8 194 (1000000), .fieldLink RX8 87 "SongOfficeModel" "dues" "[I", .methodLink RX8 217 yX8_dueAt, .static yX8_dueAt, .initialized RX8, .code yX8_dueAt cX8_dueAt 3 (some .int)] ++ wsX80)
def wsX8_fills : List Cond := .code yX8_fills cX8_fills 8 none :: ([.fieldLink RX8 25 "SongOfficeModel" "hand" "[I", .fieldLink RX8 87 "SongOfficeModel" "dues" "[I", .fieldLink RX8 34 "SongOfficeModel" "bx" "[I", .fieldLink RX8 90 "SongOfficeModel" "filled" "[I", .methodLink RX8 217 yX8_dueAt, .static yX8_dueAt, .initialized RX8, .code yX8_dueAt cX8_dueAt 3 (some .int)] ++ wsX80)
def wsX8_closes_r1 : List Cond := [Cond.fieldLink RX8 61 "SongOfficeModel" "orderMany" "[I", Cond.fieldLink RX8 58 "SongOfficeModel" "order" "[I", Cond.fieldLink RX8 55 "SongOfficeModel" "how" "[I", Cond.fieldLink RX8 46 "SongOfficeModel" "first" "[I", Cond.fieldLink RX8 49 "SongOfficeModel" "second" "[I", Cond.fieldLink RX8 52 "SongOfficeModel" "third" "[I", Cond.fieldLink RX8 157 "SongOfficeModel" "bargains" "I", Cond.fieldLink RX8 22 "SongOfficeModel" "kind" "[I", Cond.fieldLink RX8 37 "SongOfficeModel" "by" "[I", Cond.fieldLink RX8 25 "SongOfficeModel" "hand" "[I", Cond.fieldLink RX8 71 "SongOfficeModel" "purse" "[J", Cond.fieldLink RX8 84 "SongOfficeModel" "bags" "[J", Cond.fieldLink RX8 31 "SongOfficeModel" "since" "[I", Cond.methodLink RX8 175 yX8_isOpen, Cond.instanceMethod yX8_isOpen, Cond.selects RX8 yX8_isOpen yX8_isOpen, Cond.initialized RX8, Cond.code yX8_isOpen cX8_isOpen 3 (some .boolean), Cond.fieldLink RX8 64 "SongOfficeModel" "torn" "[I", Cond.fieldLink RX8 67 "SongOfficeModel" "mended" "[Z", Cond.methodLink RX8 207 yX8_comes, Cond.instanceMethod yX8_comes, Cond.selects RX8 yX8_comes yX8_comes, Cond.code yX8_comes cX8_comes 9 none]
def wsX8_closes_r2 : List Cond := [Cond.fieldLink RX8 16 "SongOfficeModel" "setHand" "[I", Cond.fieldLink RX8 19 "SongOfficeModel" "setPart" "[I", Cond.constantLong RX8 192 (1000), Cond.methodLink RX8 200 yX8_setOn, Cond.instanceMethod yX8_setOn, Cond.selects RX8 yX8_setOn yX8_setOn, Cond.code yX8_setOn cX8_setOn 5 (some .int), Cond.fieldLink RX8 7 "SongOfficeModel" "setMany" "[I", Cond.fieldLink RX8 13 "SongOfficeModel" "setDay" "[I", Cond.methodLink RX8 204 yX8_goes, Cond.instanceMethod yX8_goes, Cond.selects RX8 yX8_goes yX8_goes, Cond.code yX8_goes cX8_goes 10 none, Cond.fieldLink RX8 181 "SongOfficeModel" "deep" "I", Cond.fieldLink RX8 93 "SongOfficeModel" "cameIn" "[J", Cond.fieldLink RX8 99 "SongOfficeModel" "lineNext" "[I", Cond.fieldLink RX8 105 "SongOfficeModel" "lineLeft" "[J", Cond.fieldLink RX8 96 "SongOfficeModel" "lineHand" "[I", Cond.fieldLink RX8 102 "SongOfficeModel" "lineTold" "[I", Cond.fieldLink RX8 120 "SongOfficeModel" "toldPurse" "[J", Cond.fieldLink RX8 28 "SongOfficeModel" "works" "[I", Cond.methodLink RX8 184 yX8_begins, Cond.instanceMethod yX8_begins, Cond.selects RX8 yX8_begins yX8_begins]
def wsX8_closes_r3 : List Cond := [Cond.code yX8_begins cX8_begins 8 none, Cond.fieldLink RX8 178 "SongOfficeModel" "lines" "I", Cond.fieldLink RX8 108 "SongOfficeModel" "toldWork" "[I", Cond.fieldLink RX8 111 "SongOfficeModel" "toldHand" "[I", Cond.fieldLink RX8 114 "SongOfficeModel" "toldFrom" "[I", Cond.fieldLink RX8 117 "SongOfficeModel" "toldMites" "[J", Cond.methodLink RX8 188 yX8_meets, Cond.instanceMethod yX8_meets, Cond.selects RX8 yX8_meets yX8_meets, Cond.code yX8_meets cX8_meets 13 none, Cond.fieldLink RX8 34 "SongOfficeModel" "bx" "[I", Cond.constantLong RX8 194 (1000000), Cond.fieldLink RX8 81 "SongOfficeModel" "came" "[J", Cond.fieldLink RX8 40 "SongOfficeModel" "bz" "[I", Cond.fieldLink RX8 78 "SongOfficeModel" "kept" "[J", Cond.fieldLink RX8 43 "SongOfficeModel" "taker" "[I", Cond.methodLink RX8 196 yX8_bag, Cond.static yX8_bag, Cond.code yX8_bag cX8_bag 3 (some .int), Cond.methodLink RX8 210 yX8_pays, Cond.instanceMethod yX8_pays, Cond.selects RX8 yX8_pays yX8_pays, Cond.code yX8_pays cX8_pays 7 none, Cond.fieldLink RX8 75 "SongOfficeModel" "debt" "[J"]
def wsX8_closes_r4 : List Cond := [Cond.fieldLink RX8 87 "SongOfficeModel" "dues" "[I", Cond.methodLink RX8 217 yX8_dueAt, Cond.static yX8_dueAt, Cond.code yX8_dueAt cX8_dueAt 3 (some .int), Cond.methodLink RX8 214 yX8_fills, Cond.instanceMethod yX8_fills, Cond.selects RX8 yX8_fills yX8_fills, Cond.code yX8_fills cX8_fills 8 none, Cond.fieldLink RX8 90 "SongOfficeModel" "filled" "[I"]
def wsX8_closes : List Cond := .code yX8_closes cX8_closes 6 none :: ((wsX8_closes_r1 ++ (wsX8_closes_r2 ++ (wsX8_closes_r3 ++ wsX8_closes_r4))) ++ wsX80)
def wsX8_close_r1 : List Cond := [Cond.fieldLink RX8 136 "SongOfficeModel" "term" "I", Cond.fieldLink RX8 178 "SongOfficeModel" "lines" "I", Cond.methodLink RX8 220 yX8_closes, Cond.instanceMethod yX8_closes, Cond.selects RX8 yX8_closes yX8_closes, Cond.initialized RX8, Cond.code yX8_closes cX8_closes 6 none, Cond.fieldLink RX8 61 "SongOfficeModel" "orderMany" "[I", Cond.fieldLink RX8 58 "SongOfficeModel" "order" "[I", Cond.fieldLink RX8 55 "SongOfficeModel" "how" "[I", Cond.fieldLink RX8 46 "SongOfficeModel" "first" "[I", Cond.fieldLink RX8 49 "SongOfficeModel" "second" "[I", Cond.fieldLink RX8 52 "SongOfficeModel" "third" "[I", Cond.fieldLink RX8 157 "SongOfficeModel" "bargains" "I", Cond.fieldLink RX8 22 "SongOfficeModel" "kind" "[I", Cond.fieldLink RX8 37 "SongOfficeModel" "by" "[I", Cond.fieldLink RX8 25 "SongOfficeModel" "hand" "[I", Cond.fieldLink RX8 71 "SongOfficeModel" "purse" "[J", Cond.fieldLink RX8 84 "SongOfficeModel" "bags" "[J", Cond.fieldLink RX8 31 "SongOfficeModel" "since" "[I", Cond.methodLink RX8 175 yX8_isOpen, Cond.instanceMethod yX8_isOpen, Cond.selects RX8 yX8_isOpen yX8_isOpen, Cond.code yX8_isOpen cX8_isOpen 3 (some .boolean)]
def wsX8_close_r2 : List Cond := [Cond.fieldLink RX8 64 "SongOfficeModel" "torn" "[I", Cond.fieldLink RX8 67 "SongOfficeModel" "mended" "[Z", Cond.methodLink RX8 207 yX8_comes, Cond.instanceMethod yX8_comes, Cond.selects RX8 yX8_comes yX8_comes, Cond.code yX8_comes cX8_comes 9 none, Cond.fieldLink RX8 16 "SongOfficeModel" "setHand" "[I", Cond.fieldLink RX8 19 "SongOfficeModel" "setPart" "[I", Cond.constantLong RX8 192 (1000), Cond.methodLink RX8 200 yX8_setOn, Cond.instanceMethod yX8_setOn, Cond.selects RX8 yX8_setOn yX8_setOn, Cond.code yX8_setOn cX8_setOn 5 (some .int), Cond.fieldLink RX8 7 "SongOfficeModel" "setMany" "[I", Cond.fieldLink RX8 13 "SongOfficeModel" "setDay" "[I", Cond.methodLink RX8 204 yX8_goes, Cond.instanceMethod yX8_goes, Cond.selects RX8 yX8_goes yX8_goes, Cond.code yX8_goes cX8_goes 10 none, Cond.fieldLink RX8 181 "SongOfficeModel" "deep" "I", Cond.fieldLink RX8 93 "SongOfficeModel" "cameIn" "[J", Cond.fieldLink RX8 99 "SongOfficeModel" "lineNext" "[I", Cond.fieldLink RX8 105 "SongOfficeModel" "lineLeft" "[J", Cond.fieldLink RX8 96 "SongOfficeModel" "lineHand" "[I"]
def wsX8_close_r3 : List Cond := [Cond.fieldLink RX8 102 "SongOfficeModel" "lineTold" "[I", Cond.fieldLink RX8 120 "SongOfficeModel" "toldPurse" "[J", Cond.fieldLink RX8 28 "SongOfficeModel" "works" "[I", Cond.methodLink RX8 184 yX8_begins, Cond.instanceMethod yX8_begins, Cond.selects RX8 yX8_begins yX8_begins, Cond.code yX8_begins cX8_begins 8 none, Cond.fieldLink RX8 108 "SongOfficeModel" "toldWork" "[I", Cond.fieldLink RX8 111 "SongOfficeModel" "toldHand" "[I", Cond.fieldLink RX8 114 "SongOfficeModel" "toldFrom" "[I", Cond.fieldLink RX8 117 "SongOfficeModel" "toldMites" "[J", Cond.methodLink RX8 188 yX8_meets, Cond.instanceMethod yX8_meets, Cond.selects RX8 yX8_meets yX8_meets, Cond.code yX8_meets cX8_meets 13 none, Cond.fieldLink RX8 34 "SongOfficeModel" "bx" "[I", Cond.constantLong RX8 194 (1000000), Cond.fieldLink RX8 81 "SongOfficeModel" "came" "[J", Cond.fieldLink RX8 40 "SongOfficeModel" "bz" "[I", Cond.fieldLink RX8 78 "SongOfficeModel" "kept" "[J", Cond.fieldLink RX8 43 "SongOfficeModel" "taker" "[I", Cond.methodLink RX8 196 yX8_bag, Cond.static yX8_bag, Cond.code yX8_bag cX8_bag 3 (some .int)]
def wsX8_close_r4 : List Cond := [Cond.methodLink RX8 210 yX8_pays, Cond.instanceMethod yX8_pays, Cond.selects RX8 yX8_pays yX8_pays, Cond.code yX8_pays cX8_pays 7 none, Cond.fieldLink RX8 75 "SongOfficeModel" "debt" "[J", Cond.fieldLink RX8 87 "SongOfficeModel" "dues" "[I", Cond.methodLink RX8 217 yX8_dueAt, Cond.static yX8_dueAt, Cond.code yX8_dueAt cX8_dueAt 3 (some .int), Cond.methodLink RX8 214 yX8_fills, Cond.instanceMethod yX8_fills, Cond.selects RX8 yX8_fills yX8_fills, Cond.code yX8_fills cX8_fills 8 none, Cond.fieldLink RX8 90 "SongOfficeModel" "filled" "[I"]
def wsX8_close : List Cond := .code yX8_close cX8_close 1 (some .int) :: ((wsX8_close_r1 ++ (wsX8_close_r2 ++ (wsX8_close_r3 ++ wsX8_close_r4))) ++ wsX80)
def wsX8_takes : List Cond := .code yX8_takes cX8_takes 11 (some .long) :: ([.constantLong RX8 194 (1000000), .fieldLink RX8 157 "SongOfficeModel" "bargains" "I", .fieldLink RX8 22 "SongOfficeModel" "kind" "[I", .fieldLink RX8 25 "SongOfficeModel" "hand" "[I", .fieldLink RX8 84 "SongOfficeModel" "bags" "[J", .fieldLink RX8 75 "SongOfficeModel" "debt" "[J", .methodLink RX8 196 yX8_bag, .static yX8_bag, .initialized RX8, .code yX8_bag cX8_bag 3 (some .int)] ++ wsX80)
def wsX8_sent_r1 : List Cond := [Cond.constant RX8 150 (1000000), Cond.fieldLink RX8 224 "SongOfficeModel" "sents" "I", Cond.constantLong RX8 227 (-1), Cond.fieldLink RX8 123 "SongOfficeModel" "sentHand" "[I", Cond.fieldLink RX8 126 "SongOfficeModel" "sentCoins" "[I", Cond.fieldLink RX8 129 "SongOfficeModel" "sentTerm" "[I", Cond.fieldLink RX8 136 "SongOfficeModel" "term" "I", Cond.fieldLink RX8 229 "SongOfficeModel" "sentAll" "J", Cond.constantLong RX8 194 (1000000), Cond.methodLink RX8 132 yX8_isHand, Cond.static yX8_isHand, Cond.initialized RX8, Cond.code yX8_isHand cX8_isHand 1 (some .boolean), Cond.methodLink RX8 233 yX8_takes, Cond.instanceMethod yX8_takes, Cond.selects RX8 yX8_takes yX8_takes, Cond.code yX8_takes cX8_takes 11 (some .long), Cond.fieldLink RX8 157 "SongOfficeModel" "bargains" "I", Cond.fieldLink RX8 22 "SongOfficeModel" "kind" "[I", Cond.fieldLink RX8 25 "SongOfficeModel" "hand" "[I", Cond.fieldLink RX8 84 "SongOfficeModel" "bags" "[J", Cond.fieldLink RX8 75 "SongOfficeModel" "debt" "[J", Cond.methodLink RX8 196 yX8_bag, Cond.static yX8_bag]
def wsX8_sent_r2 : List Cond := [Cond.code yX8_bag cX8_bag 3 (some .int)]
def wsX8_sent : List Cond := .code yX8_sent cX8_sent 3 (some .long) :: ((wsX8_sent_r1 ++ wsX8_sent_r2) ++ wsX80)
def wsX8_sentIn : List Cond := .code yX8_sentIn cX8_sentIn 3 none :: ([.fieldLink RX8 224 "SongOfficeModel" "sents" "I", .fieldLink RX8 129 "SongOfficeModel" "sentTerm" "[I", .fieldLink RX8 123 "SongOfficeModel" "sentHand" "[I", .fieldLink RX8 126 "SongOfficeModel" "sentCoins" "[I", .methodLink RX8 233 yX8_takes, .instanceMethod yX8_takes, .selects RX8 yX8_takes yX8_takes, .initialized RX8, .code yX8_takes cX8_takes 11 (some .long), .constantLong RX8 194 (1000000), .fieldLink RX8 157 "SongOfficeModel" "bargains" "I", .fieldLink RX8 22 "SongOfficeModel" "kind" "[I", .fieldLink RX8 25 "SongOfficeModel" "hand" "[I", .fieldLink RX8 84 "SongOfficeModel" "bags" "[J", .fieldLink RX8 75 "SongOfficeModel" "debt" "[J", .methodLink RX8 196 yX8_bag, .static yX8_bag, .code yX8_bag cX8_bag 3 (some .int)] ++ wsX80)
def wsX8_anew_r1 : List Cond := [Cond.fieldLink RX8 136 "SongOfficeModel" "term" "I", Cond.methodLink RX8 237 yX8_empties, Cond.instanceMethod yX8_empties, Cond.selects RX8 yX8_empties yX8_empties, Cond.initialized RX8, Cond.code yX8_empties cX8_empties 2 none, Cond.fieldLink RX8 71 "SongOfficeModel" "purse" "[J", Cond.fieldLink RX8 75 "SongOfficeModel" "debt" "[J", Cond.fieldLink RX8 90 "SongOfficeModel" "filled" "[I", Cond.fieldLink RX8 78 "SongOfficeModel" "kept" "[J", Cond.fieldLink RX8 81 "SongOfficeModel" "came" "[J", Cond.fieldLink RX8 84 "SongOfficeModel" "bags" "[J", Cond.fieldLink RX8 87 "SongOfficeModel" "dues" "[I", Cond.fieldLink RX8 93 "SongOfficeModel" "cameIn" "[J", Cond.methodLink RX8 240 yX8_sentIn, Cond.instanceMethod yX8_sentIn, Cond.selects RX8 yX8_sentIn yX8_sentIn, Cond.code yX8_sentIn cX8_sentIn 3 none, Cond.fieldLink RX8 224 "SongOfficeModel" "sents" "I", Cond.fieldLink RX8 129 "SongOfficeModel" "sentTerm" "[I", Cond.fieldLink RX8 123 "SongOfficeModel" "sentHand" "[I", Cond.fieldLink RX8 126 "SongOfficeModel" "sentCoins" "[I", Cond.methodLink RX8 233 yX8_takes, Cond.instanceMethod yX8_takes]
def wsX8_anew_r2 : List Cond := [Cond.selects RX8 yX8_takes yX8_takes, Cond.code yX8_takes cX8_takes 11 (some .long), Cond.constantLong RX8 194 (1000000), Cond.fieldLink RX8 157 "SongOfficeModel" "bargains" "I", Cond.fieldLink RX8 22 "SongOfficeModel" "kind" "[I", Cond.fieldLink RX8 25 "SongOfficeModel" "hand" "[I", Cond.methodLink RX8 196 yX8_bag, Cond.static yX8_bag, Cond.code yX8_bag cX8_bag 3 (some .int), Cond.methodLink RX8 220 yX8_closes, Cond.instanceMethod yX8_closes, Cond.selects RX8 yX8_closes yX8_closes, Cond.code yX8_closes cX8_closes 6 none, Cond.fieldLink RX8 61 "SongOfficeModel" "orderMany" "[I", Cond.fieldLink RX8 58 "SongOfficeModel" "order" "[I", Cond.fieldLink RX8 55 "SongOfficeModel" "how" "[I", Cond.fieldLink RX8 46 "SongOfficeModel" "first" "[I", Cond.fieldLink RX8 49 "SongOfficeModel" "second" "[I", Cond.fieldLink RX8 52 "SongOfficeModel" "third" "[I", Cond.fieldLink RX8 37 "SongOfficeModel" "by" "[I", Cond.fieldLink RX8 31 "SongOfficeModel" "since" "[I", Cond.methodLink RX8 175 yX8_isOpen, Cond.instanceMethod yX8_isOpen, Cond.selects RX8 yX8_isOpen yX8_isOpen]
def wsX8_anew_r3 : List Cond := [Cond.code yX8_isOpen cX8_isOpen 3 (some .boolean), Cond.fieldLink RX8 64 "SongOfficeModel" "torn" "[I", Cond.fieldLink RX8 67 "SongOfficeModel" "mended" "[Z", Cond.methodLink RX8 207 yX8_comes, Cond.instanceMethod yX8_comes, Cond.selects RX8 yX8_comes yX8_comes, Cond.code yX8_comes cX8_comes 9 none, Cond.fieldLink RX8 16 "SongOfficeModel" "setHand" "[I", Cond.fieldLink RX8 19 "SongOfficeModel" "setPart" "[I", Cond.constantLong RX8 192 (1000), Cond.methodLink RX8 200 yX8_setOn, Cond.instanceMethod yX8_setOn, Cond.selects RX8 yX8_setOn yX8_setOn, Cond.code yX8_setOn cX8_setOn 5 (some .int), Cond.fieldLink RX8 7 "SongOfficeModel" "setMany" "[I", Cond.fieldLink RX8 13 "SongOfficeModel" "setDay" "[I", Cond.methodLink RX8 204 yX8_goes, Cond.instanceMethod yX8_goes, Cond.selects RX8 yX8_goes yX8_goes, Cond.code yX8_goes cX8_goes 10 none, Cond.fieldLink RX8 181 "SongOfficeModel" "deep" "I", Cond.fieldLink RX8 99 "SongOfficeModel" "lineNext" "[I", Cond.fieldLink RX8 105 "SongOfficeModel" "lineLeft" "[J", Cond.fieldLink RX8 96 "SongOfficeModel" "lineHand" "[I"]
def wsX8_anew_r4 : List Cond := [Cond.fieldLink RX8 102 "SongOfficeModel" "lineTold" "[I", Cond.fieldLink RX8 120 "SongOfficeModel" "toldPurse" "[J", Cond.fieldLink RX8 28 "SongOfficeModel" "works" "[I", Cond.methodLink RX8 184 yX8_begins, Cond.instanceMethod yX8_begins, Cond.selects RX8 yX8_begins yX8_begins, Cond.code yX8_begins cX8_begins 8 none, Cond.fieldLink RX8 178 "SongOfficeModel" "lines" "I", Cond.fieldLink RX8 108 "SongOfficeModel" "toldWork" "[I", Cond.fieldLink RX8 111 "SongOfficeModel" "toldHand" "[I", Cond.fieldLink RX8 114 "SongOfficeModel" "toldFrom" "[I", Cond.fieldLink RX8 117 "SongOfficeModel" "toldMites" "[J", Cond.methodLink RX8 188 yX8_meets, Cond.instanceMethod yX8_meets, Cond.selects RX8 yX8_meets yX8_meets, Cond.code yX8_meets cX8_meets 13 none, Cond.fieldLink RX8 34 "SongOfficeModel" "bx" "[I", Cond.fieldLink RX8 40 "SongOfficeModel" "bz" "[I", Cond.fieldLink RX8 43 "SongOfficeModel" "taker" "[I", Cond.methodLink RX8 210 yX8_pays, Cond.instanceMethod yX8_pays, Cond.selects RX8 yX8_pays yX8_pays, Cond.code yX8_pays cX8_pays 7 none, Cond.methodLink RX8 217 yX8_dueAt]
def wsX8_anew_r5 : List Cond := [Cond.static yX8_dueAt, Cond.code yX8_dueAt cX8_dueAt 3 (some .int), Cond.methodLink RX8 214 yX8_fills, Cond.instanceMethod yX8_fills, Cond.selects RX8 yX8_fills yX8_fills, Cond.code yX8_fills cX8_fills 8 none]
def wsX8_anew : List Cond := .code yX8_anew cX8_anew 2 none :: ((wsX8_anew_r1 ++ (wsX8_anew_r2 ++ (wsX8_anew_r3 ++ (wsX8_anew_r4 ++ wsX8_anew_r5)))) ++ wsX80)
def wsX8_duesOf : List Cond := .code yX8_duesOf cX8_duesOf 6 (some .long) :: ([.fieldLink RX8 87 "SongOfficeModel" "dues" "[I", .methodLink RX8 217 yX8_dueAt, .static yX8_dueAt, .initialized RX8, .code yX8_dueAt cX8_dueAt 3 (some .int)] ++ wsX80)
def wsX8_worth : List Cond := .code yX8_worth cX8_worth 3 (some .long) :: ([.constantLong RX8 194 (1000000), .fieldLink RX8 71 "SongOfficeModel" "purse" "[J", .fieldLink RX8 75 "SongOfficeModel" "debt" "[J", .methodLink RX8 244 yX8_duesOf, .instanceMethod yX8_duesOf, .selects RX8 yX8_duesOf yX8_duesOf, .initialized RX8, .code yX8_duesOf cX8_duesOf 6 (some .long), .fieldLink RX8 87 "SongOfficeModel" "dues" "[I", .methodLink RX8 217 yX8_dueAt, .static yX8_dueAt, .code yX8_dueAt cX8_dueAt 3 (some .int)] ++ wsX80)
def wsX8_owed : List Cond := .code yX8_owed cX8_owed 2 (some .long) :: ([.methodLink RX8 248 yX8_worth, .instanceMethod yX8_worth, .selects RX8 yX8_worth yX8_worth, .initialized RX8, .code yX8_worth cX8_worth 3 (some .long), .constantLong RX8 194 (1000000), .fieldLink RX8 71 "SongOfficeModel" "purse" "[J", .fieldLink RX8 75 "SongOfficeModel" "debt" "[J", .methodLink RX8 244 yX8_duesOf, .instanceMethod yX8_duesOf, .selects RX8 yX8_duesOf yX8_duesOf, .code yX8_duesOf cX8_duesOf 6 (some .long), .fieldLink RX8 87 "SongOfficeModel" "dues" "[I", .methodLink RX8 217 yX8_dueAt, .static yX8_dueAt, .code yX8_dueAt cX8_dueAt 3 (some .int)] ++ wsX80)
def wsX8_owe_r1 : List Cond := [Cond.methodLink RX8 251 yX8_anew, Cond.instanceMethod yX8_anew, Cond.selects RX8 yX8_anew yX8_anew, Cond.initialized RX8, Cond.code yX8_anew cX8_anew 2 none, Cond.fieldLink RX8 136 "SongOfficeModel" "term" "I", Cond.methodLink RX8 237 yX8_empties, Cond.instanceMethod yX8_empties, Cond.selects RX8 yX8_empties yX8_empties, Cond.code yX8_empties cX8_empties 2 none, Cond.fieldLink RX8 71 "SongOfficeModel" "purse" "[J", Cond.fieldLink RX8 75 "SongOfficeModel" "debt" "[J", Cond.fieldLink RX8 90 "SongOfficeModel" "filled" "[I", Cond.fieldLink RX8 78 "SongOfficeModel" "kept" "[J", Cond.fieldLink RX8 81 "SongOfficeModel" "came" "[J", Cond.fieldLink RX8 84 "SongOfficeModel" "bags" "[J", Cond.fieldLink RX8 87 "SongOfficeModel" "dues" "[I", Cond.fieldLink RX8 93 "SongOfficeModel" "cameIn" "[J", Cond.methodLink RX8 240 yX8_sentIn, Cond.instanceMethod yX8_sentIn, Cond.selects RX8 yX8_sentIn yX8_sentIn, Cond.code yX8_sentIn cX8_sentIn 3 none, Cond.fieldLink RX8 224 "SongOfficeModel" "sents" "I", Cond.fieldLink RX8 129 "SongOfficeModel" "sentTerm" "[I"]
def wsX8_owe_r2 : List Cond := [Cond.fieldLink RX8 123 "SongOfficeModel" "sentHand" "[I", Cond.fieldLink RX8 126 "SongOfficeModel" "sentCoins" "[I", Cond.methodLink RX8 233 yX8_takes, Cond.instanceMethod yX8_takes, Cond.selects RX8 yX8_takes yX8_takes, Cond.code yX8_takes cX8_takes 11 (some .long), Cond.constantLong RX8 194 (1000000), Cond.fieldLink RX8 157 "SongOfficeModel" "bargains" "I", Cond.fieldLink RX8 22 "SongOfficeModel" "kind" "[I", Cond.fieldLink RX8 25 "SongOfficeModel" "hand" "[I", Cond.methodLink RX8 196 yX8_bag, Cond.static yX8_bag, Cond.code yX8_bag cX8_bag 3 (some .int), Cond.methodLink RX8 220 yX8_closes, Cond.instanceMethod yX8_closes, Cond.selects RX8 yX8_closes yX8_closes, Cond.code yX8_closes cX8_closes 6 none, Cond.fieldLink RX8 61 "SongOfficeModel" "orderMany" "[I", Cond.fieldLink RX8 58 "SongOfficeModel" "order" "[I", Cond.fieldLink RX8 55 "SongOfficeModel" "how" "[I", Cond.fieldLink RX8 46 "SongOfficeModel" "first" "[I", Cond.fieldLink RX8 49 "SongOfficeModel" "second" "[I", Cond.fieldLink RX8 52 "SongOfficeModel" "third" "[I", Cond.fieldLink RX8 37 "SongOfficeModel" "by" "[I"]
def wsX8_owe_r3 : List Cond := [Cond.fieldLink RX8 31 "SongOfficeModel" "since" "[I", Cond.methodLink RX8 175 yX8_isOpen, Cond.instanceMethod yX8_isOpen, Cond.selects RX8 yX8_isOpen yX8_isOpen, Cond.code yX8_isOpen cX8_isOpen 3 (some .boolean), Cond.fieldLink RX8 64 "SongOfficeModel" "torn" "[I", Cond.fieldLink RX8 67 "SongOfficeModel" "mended" "[Z", Cond.methodLink RX8 207 yX8_comes, Cond.instanceMethod yX8_comes, Cond.selects RX8 yX8_comes yX8_comes, Cond.code yX8_comes cX8_comes 9 none, Cond.fieldLink RX8 16 "SongOfficeModel" "setHand" "[I", Cond.fieldLink RX8 19 "SongOfficeModel" "setPart" "[I", Cond.constantLong RX8 192 (1000), Cond.methodLink RX8 200 yX8_setOn, Cond.instanceMethod yX8_setOn, Cond.selects RX8 yX8_setOn yX8_setOn, Cond.code yX8_setOn cX8_setOn 5 (some .int), Cond.fieldLink RX8 7 "SongOfficeModel" "setMany" "[I", Cond.fieldLink RX8 13 "SongOfficeModel" "setDay" "[I", Cond.methodLink RX8 204 yX8_goes, Cond.instanceMethod yX8_goes, Cond.selects RX8 yX8_goes yX8_goes, Cond.code yX8_goes cX8_goes 10 none]
def wsX8_owe_r4 : List Cond := [Cond.fieldLink RX8 181 "SongOfficeModel" "deep" "I", Cond.fieldLink RX8 99 "SongOfficeModel" "lineNext" "[I", Cond.fieldLink RX8 105 "SongOfficeModel" "lineLeft" "[J", Cond.fieldLink RX8 96 "SongOfficeModel" "lineHand" "[I", Cond.fieldLink RX8 102 "SongOfficeModel" "lineTold" "[I", Cond.fieldLink RX8 120 "SongOfficeModel" "toldPurse" "[J", Cond.fieldLink RX8 28 "SongOfficeModel" "works" "[I", Cond.methodLink RX8 184 yX8_begins, Cond.instanceMethod yX8_begins, Cond.selects RX8 yX8_begins yX8_begins, Cond.code yX8_begins cX8_begins 8 none, Cond.fieldLink RX8 178 "SongOfficeModel" "lines" "I", Cond.fieldLink RX8 108 "SongOfficeModel" "toldWork" "[I", Cond.fieldLink RX8 111 "SongOfficeModel" "toldHand" "[I", Cond.fieldLink RX8 114 "SongOfficeModel" "toldFrom" "[I", Cond.fieldLink RX8 117 "SongOfficeModel" "toldMites" "[J", Cond.methodLink RX8 188 yX8_meets, Cond.instanceMethod yX8_meets, Cond.selects RX8 yX8_meets yX8_meets, Cond.code yX8_meets cX8_meets 13 none, Cond.fieldLink RX8 34 "SongOfficeModel" "bx" "[I", Cond.fieldLink RX8 40 "SongOfficeModel" "bz" "[I", Cond.fieldLink RX8 43 "SongOfficeModel" "taker" "[I", Cond.methodLink RX8 210 yX8_pays]
def wsX8_owe_r5 : List Cond := [Cond.instanceMethod yX8_pays, Cond.selects RX8 yX8_pays yX8_pays, Cond.code yX8_pays cX8_pays 7 none, Cond.methodLink RX8 217 yX8_dueAt, Cond.static yX8_dueAt, Cond.code yX8_dueAt cX8_dueAt 3 (some .int), Cond.methodLink RX8 214 yX8_fills, Cond.instanceMethod yX8_fills, Cond.selects RX8 yX8_fills yX8_fills, Cond.code yX8_fills cX8_fills 8 none, Cond.methodLink RX8 254 yX8_owed, Cond.instanceMethod yX8_owed, Cond.selects RX8 yX8_owed yX8_owed, Cond.code yX8_owed cX8_owed 2 (some .long), Cond.methodLink RX8 248 yX8_worth, Cond.instanceMethod yX8_worth, Cond.selects RX8 yX8_worth yX8_worth, Cond.code yX8_worth cX8_worth 3 (some .long), Cond.methodLink RX8 244 yX8_duesOf, Cond.instanceMethod yX8_duesOf, Cond.selects RX8 yX8_duesOf yX8_duesOf, Cond.code yX8_duesOf cX8_duesOf 6 (some .long)]
def wsX8_owe : List Cond := .code yX8_owe cX8_owe 4 (some .long) :: ((wsX8_owe_r1 ++ (wsX8_owe_r2 ++ (wsX8_owe_r3 ++ (wsX8_owe_r4 ++ wsX8_owe_r5)))) ++ wsX80)
def wsX8_settle_r1 : List Cond := [Cond.fieldLink RX8 71 "SongOfficeModel" "purse" "[J", Cond.fieldLink RX8 75 "SongOfficeModel" "debt" "[J", Cond.fieldLink RX8 90 "SongOfficeModel" "filled" "[I", Cond.fieldLink RX8 78 "SongOfficeModel" "kept" "[J", Cond.fieldLink RX8 81 "SongOfficeModel" "came" "[J", Cond.fieldLink RX8 84 "SongOfficeModel" "bags" "[J", Cond.fieldLink RX8 93 "SongOfficeModel" "cameIn" "[J", Cond.fieldLink RX8 258 "SongOfficeModel" "settled" "I", Cond.methodLink RX8 251 yX8_anew, Cond.instanceMethod yX8_anew, Cond.selects RX8 yX8_anew yX8_anew, Cond.initialized RX8, Cond.code yX8_anew cX8_anew 2 none, Cond.fieldLink RX8 136 "SongOfficeModel" "term" "I", Cond.methodLink RX8 237 yX8_empties, Cond.instanceMethod yX8_empties, Cond.selects RX8 yX8_empties yX8_empties, Cond.code yX8_empties cX8_empties 2 none, Cond.fieldLink RX8 87 "SongOfficeModel" "dues" "[I", Cond.methodLink RX8 240 yX8_sentIn, Cond.instanceMethod yX8_sentIn, Cond.selects RX8 yX8_sentIn yX8_sentIn, Cond.code yX8_sentIn cX8_sentIn 3 none, Cond.fieldLink RX8 224 "SongOfficeModel" "sents" "I"]
def wsX8_settle_r2 : List Cond := [Cond.fieldLink RX8 129 "SongOfficeModel" "sentTerm" "[I", Cond.fieldLink RX8 123 "SongOfficeModel" "sentHand" "[I", Cond.fieldLink RX8 126 "SongOfficeModel" "sentCoins" "[I", Cond.methodLink RX8 233 yX8_takes, Cond.instanceMethod yX8_takes, Cond.selects RX8 yX8_takes yX8_takes, Cond.code yX8_takes cX8_takes 11 (some .long), Cond.constantLong RX8 194 (1000000), Cond.fieldLink RX8 157 "SongOfficeModel" "bargains" "I", Cond.fieldLink RX8 22 "SongOfficeModel" "kind" "[I", Cond.fieldLink RX8 25 "SongOfficeModel" "hand" "[I", Cond.methodLink RX8 196 yX8_bag, Cond.static yX8_bag, Cond.code yX8_bag cX8_bag 3 (some .int), Cond.methodLink RX8 220 yX8_closes, Cond.instanceMethod yX8_closes, Cond.selects RX8 yX8_closes yX8_closes, Cond.code yX8_closes cX8_closes 6 none, Cond.fieldLink RX8 61 "SongOfficeModel" "orderMany" "[I", Cond.fieldLink RX8 58 "SongOfficeModel" "order" "[I", Cond.fieldLink RX8 55 "SongOfficeModel" "how" "[I", Cond.fieldLink RX8 46 "SongOfficeModel" "first" "[I", Cond.fieldLink RX8 49 "SongOfficeModel" "second" "[I", Cond.fieldLink RX8 52 "SongOfficeModel" "third" "[I"]
def wsX8_settle_r3 : List Cond := [Cond.fieldLink RX8 37 "SongOfficeModel" "by" "[I", Cond.fieldLink RX8 31 "SongOfficeModel" "since" "[I", Cond.methodLink RX8 175 yX8_isOpen, Cond.instanceMethod yX8_isOpen, Cond.selects RX8 yX8_isOpen yX8_isOpen, Cond.code yX8_isOpen cX8_isOpen 3 (some .boolean), Cond.fieldLink RX8 64 "SongOfficeModel" "torn" "[I", Cond.fieldLink RX8 67 "SongOfficeModel" "mended" "[Z", Cond.methodLink RX8 207 yX8_comes, Cond.instanceMethod yX8_comes, Cond.selects RX8 yX8_comes yX8_comes, Cond.code yX8_comes cX8_comes 9 none, Cond.fieldLink RX8 16 "SongOfficeModel" "setHand" "[I", Cond.fieldLink RX8 19 "SongOfficeModel" "setPart" "[I", Cond.constantLong RX8 192 (1000), Cond.methodLink RX8 200 yX8_setOn, Cond.instanceMethod yX8_setOn, Cond.selects RX8 yX8_setOn yX8_setOn, Cond.code yX8_setOn cX8_setOn 5 (some .int), Cond.fieldLink RX8 7 "SongOfficeModel" "setMany" "[I", Cond.fieldLink RX8 13 "SongOfficeModel" "setDay" "[I", Cond.methodLink RX8 204 yX8_goes, Cond.instanceMethod yX8_goes, Cond.selects RX8 yX8_goes yX8_goes]
def wsX8_settle_r4 : List Cond := [Cond.code yX8_goes cX8_goes 10 none, Cond.fieldLink RX8 181 "SongOfficeModel" "deep" "I", Cond.fieldLink RX8 99 "SongOfficeModel" "lineNext" "[I", Cond.fieldLink RX8 105 "SongOfficeModel" "lineLeft" "[J", Cond.fieldLink RX8 96 "SongOfficeModel" "lineHand" "[I", Cond.fieldLink RX8 102 "SongOfficeModel" "lineTold" "[I", Cond.fieldLink RX8 120 "SongOfficeModel" "toldPurse" "[J", Cond.fieldLink RX8 28 "SongOfficeModel" "works" "[I", Cond.methodLink RX8 184 yX8_begins, Cond.instanceMethod yX8_begins, Cond.selects RX8 yX8_begins yX8_begins, Cond.code yX8_begins cX8_begins 8 none, Cond.fieldLink RX8 178 "SongOfficeModel" "lines" "I", Cond.fieldLink RX8 108 "SongOfficeModel" "toldWork" "[I", Cond.fieldLink RX8 111 "SongOfficeModel" "toldHand" "[I", Cond.fieldLink RX8 114 "SongOfficeModel" "toldFrom" "[I", Cond.fieldLink RX8 117 "SongOfficeModel" "toldMites" "[J", Cond.methodLink RX8 188 yX8_meets, Cond.instanceMethod yX8_meets, Cond.selects RX8 yX8_meets yX8_meets, Cond.code yX8_meets cX8_meets 13 none, Cond.fieldLink RX8 34 "SongOfficeModel" "bx" "[I", Cond.fieldLink RX8 40 "SongOfficeModel" "bz" "[I", Cond.fieldLink RX8 43 "SongOfficeModel" "taker" "[I"]
def wsX8_settle_r5 : List Cond := [Cond.methodLink RX8 210 yX8_pays, Cond.instanceMethod yX8_pays, Cond.selects RX8 yX8_pays yX8_pays, Cond.code yX8_pays cX8_pays 7 none, Cond.methodLink RX8 217 yX8_dueAt, Cond.static yX8_dueAt, Cond.code yX8_dueAt cX8_dueAt 3 (some .int), Cond.methodLink RX8 214 yX8_fills, Cond.instanceMethod yX8_fills, Cond.selects RX8 yX8_fills yX8_fills, Cond.code yX8_fills cX8_fills 8 none, Cond.methodLink RX8 254 yX8_owed, Cond.instanceMethod yX8_owed, Cond.selects RX8 yX8_owed yX8_owed, Cond.code yX8_owed cX8_owed 2 (some .long), Cond.methodLink RX8 248 yX8_worth, Cond.instanceMethod yX8_worth, Cond.selects RX8 yX8_worth yX8_worth, Cond.code yX8_worth cX8_worth 3 (some .long), Cond.methodLink RX8 244 yX8_duesOf, Cond.instanceMethod yX8_duesOf, Cond.selects RX8 yX8_duesOf yX8_duesOf, Cond.code yX8_duesOf cX8_duesOf 6 (some .long)]
def wsX8_settle : List Cond := .code yX8_settle cX8_settle 5 (some .int) :: ((wsX8_settle_r1 ++ (wsX8_settle_r2 ++ (wsX8_settle_r3 ++ (wsX8_settle_r4 ++ wsX8_settle_r5)))) ++ wsX80)
def wsX8_due : List Cond := .code yX8_due cX8_due 3 (some .int) :: ([.fieldLink RX8 136 "SongOfficeModel" "term" "I", .fieldLink RX8 87 "SongOfficeModel" "dues" "[I", .methodLink RX8 132 yX8_isHand, .static yX8_isHand, .initialized RX8, .code yX8_isHand cX8_isHand 1 (some .boolean), .methodLink RX8 217 yX8_dueAt, .static yX8_dueAt, .code yX8_dueAt cX8_dueAt 3 (some .int)] ++ wsX80)
def wsX8_hand_r1 : List Cond := [Cond.constantLong RX8 227 (-1), Cond.fieldLink RX8 71 "SongOfficeModel" "purse" "[J", Cond.fieldLink RX8 75 "SongOfficeModel" "debt" "[J", Cond.fieldLink RX8 90 "SongOfficeModel" "filled" "[I", Cond.methodLink RX8 132 yX8_isHand, Cond.static yX8_isHand, Cond.initialized RX8, Cond.code yX8_isHand cX8_isHand 1 (some .boolean), Cond.methodLink RX8 244 yX8_duesOf, Cond.instanceMethod yX8_duesOf, Cond.selects RX8 yX8_duesOf yX8_duesOf, Cond.code yX8_duesOf cX8_duesOf 6 (some .long), Cond.fieldLink RX8 87 "SongOfficeModel" "dues" "[I", Cond.methodLink RX8 217 yX8_dueAt, Cond.static yX8_dueAt, Cond.code yX8_dueAt cX8_dueAt 3 (some .int), Cond.methodLink RX8 251 yX8_anew, Cond.instanceMethod yX8_anew, Cond.selects RX8 yX8_anew yX8_anew, Cond.code yX8_anew cX8_anew 2 none, Cond.fieldLink RX8 136 "SongOfficeModel" "term" "I", Cond.methodLink RX8 237 yX8_empties, Cond.instanceMethod yX8_empties, Cond.selects RX8 yX8_empties yX8_empties]
def wsX8_hand_r2 : List Cond := [Cond.code yX8_empties cX8_empties 2 none, Cond.fieldLink RX8 78 "SongOfficeModel" "kept" "[J", Cond.fieldLink RX8 81 "SongOfficeModel" "came" "[J", Cond.fieldLink RX8 84 "SongOfficeModel" "bags" "[J", Cond.fieldLink RX8 93 "SongOfficeModel" "cameIn" "[J", Cond.methodLink RX8 240 yX8_sentIn, Cond.instanceMethod yX8_sentIn, Cond.selects RX8 yX8_sentIn yX8_sentIn, Cond.code yX8_sentIn cX8_sentIn 3 none, Cond.fieldLink RX8 224 "SongOfficeModel" "sents" "I", Cond.fieldLink RX8 129 "SongOfficeModel" "sentTerm" "[I", Cond.fieldLink RX8 123 "SongOfficeModel" "sentHand" "[I", Cond.fieldLink RX8 126 "SongOfficeModel" "sentCoins" "[I", Cond.methodLink RX8 233 yX8_takes, Cond.instanceMethod yX8_takes, Cond.selects RX8 yX8_takes yX8_takes, Cond.code yX8_takes cX8_takes 11 (some .long), Cond.constantLong RX8 194 (1000000), Cond.fieldLink RX8 157 "SongOfficeModel" "bargains" "I", Cond.fieldLink RX8 22 "SongOfficeModel" "kind" "[I", Cond.fieldLink RX8 25 "SongOfficeModel" "hand" "[I", Cond.methodLink RX8 196 yX8_bag, Cond.static yX8_bag, Cond.code yX8_bag cX8_bag 3 (some .int)]
def wsX8_hand_r3 : List Cond := [Cond.methodLink RX8 220 yX8_closes, Cond.instanceMethod yX8_closes, Cond.selects RX8 yX8_closes yX8_closes, Cond.code yX8_closes cX8_closes 6 none, Cond.fieldLink RX8 61 "SongOfficeModel" "orderMany" "[I", Cond.fieldLink RX8 58 "SongOfficeModel" "order" "[I", Cond.fieldLink RX8 55 "SongOfficeModel" "how" "[I", Cond.fieldLink RX8 46 "SongOfficeModel" "first" "[I", Cond.fieldLink RX8 49 "SongOfficeModel" "second" "[I", Cond.fieldLink RX8 52 "SongOfficeModel" "third" "[I", Cond.fieldLink RX8 37 "SongOfficeModel" "by" "[I", Cond.fieldLink RX8 31 "SongOfficeModel" "since" "[I", Cond.methodLink RX8 175 yX8_isOpen, Cond.instanceMethod yX8_isOpen, Cond.selects RX8 yX8_isOpen yX8_isOpen, Cond.code yX8_isOpen cX8_isOpen 3 (some .boolean), Cond.fieldLink RX8 64 "SongOfficeModel" "torn" "[I", Cond.fieldLink RX8 67 "SongOfficeModel" "mended" "[Z", Cond.methodLink RX8 207 yX8_comes, Cond.instanceMethod yX8_comes, Cond.selects RX8 yX8_comes yX8_comes, Cond.code yX8_comes cX8_comes 9 none, Cond.fieldLink RX8 16 "SongOfficeModel" "setHand" "[I", Cond.fieldLink RX8 19 "SongOfficeModel" "setPart" "[I"]
def wsX8_hand_r4 : List Cond := [Cond.constantLong RX8 192 (1000), Cond.methodLink RX8 200 yX8_setOn, Cond.instanceMethod yX8_setOn, Cond.selects RX8 yX8_setOn yX8_setOn, Cond.code yX8_setOn cX8_setOn 5 (some .int), Cond.fieldLink RX8 7 "SongOfficeModel" "setMany" "[I", Cond.fieldLink RX8 13 "SongOfficeModel" "setDay" "[I", Cond.methodLink RX8 204 yX8_goes, Cond.instanceMethod yX8_goes, Cond.selects RX8 yX8_goes yX8_goes, Cond.code yX8_goes cX8_goes 10 none, Cond.fieldLink RX8 181 "SongOfficeModel" "deep" "I", Cond.fieldLink RX8 99 "SongOfficeModel" "lineNext" "[I", Cond.fieldLink RX8 105 "SongOfficeModel" "lineLeft" "[J", Cond.fieldLink RX8 96 "SongOfficeModel" "lineHand" "[I", Cond.fieldLink RX8 102 "SongOfficeModel" "lineTold" "[I", Cond.fieldLink RX8 120 "SongOfficeModel" "toldPurse" "[J", Cond.fieldLink RX8 28 "SongOfficeModel" "works" "[I", Cond.methodLink RX8 184 yX8_begins, Cond.instanceMethod yX8_begins, Cond.selects RX8 yX8_begins yX8_begins, Cond.code yX8_begins cX8_begins 8 none, Cond.fieldLink RX8 178 "SongOfficeModel" "lines" "I", Cond.fieldLink RX8 108 "SongOfficeModel" "toldWork" "[I"]
def wsX8_hand_r5 : List Cond := [Cond.fieldLink RX8 111 "SongOfficeModel" "toldHand" "[I", Cond.fieldLink RX8 114 "SongOfficeModel" "toldFrom" "[I", Cond.fieldLink RX8 117 "SongOfficeModel" "toldMites" "[J", Cond.methodLink RX8 188 yX8_meets, Cond.instanceMethod yX8_meets, Cond.selects RX8 yX8_meets yX8_meets, Cond.code yX8_meets cX8_meets 13 none, Cond.fieldLink RX8 34 "SongOfficeModel" "bx" "[I", Cond.fieldLink RX8 40 "SongOfficeModel" "bz" "[I", Cond.fieldLink RX8 43 "SongOfficeModel" "taker" "[I", Cond.methodLink RX8 210 yX8_pays, Cond.instanceMethod yX8_pays, Cond.selects RX8 yX8_pays yX8_pays, Cond.code yX8_pays cX8_pays 7 none, Cond.methodLink RX8 214 yX8_fills, Cond.instanceMethod yX8_fills, Cond.selects RX8 yX8_fills yX8_fills, Cond.code yX8_fills cX8_fills 8 none, Cond.methodLink RX8 254 yX8_owed, Cond.instanceMethod yX8_owed, Cond.selects RX8 yX8_owed yX8_owed, Cond.code yX8_owed cX8_owed 2 (some .long), Cond.methodLink RX8 248 yX8_worth, Cond.instanceMethod yX8_worth]
def wsX8_hand_r6 : List Cond := [Cond.selects RX8 yX8_worth yX8_worth, Cond.code yX8_worth cX8_worth 3 (some .long)]
def wsX8_hand : List Cond := .code yX8_hand cX8_hand 3 (some .long) :: ((wsX8_hand_r1 ++ (wsX8_hand_r2 ++ (wsX8_hand_r3 ++ (wsX8_hand_r4 ++ (wsX8_hand_r5 ++ wsX8_hand_r6))))) ++ wsX80)
def wsX8_inBags : List Cond := .code yX8_inBags cX8_inBags 5 (some .long) :: ([.fieldLink RX8 84 "SongOfficeModel" "bags" "[J", .methodLink RX8 196 yX8_bag, .static yX8_bag, .initialized RX8, .code yX8_bag cX8_bag 3 (some .int)] ++ wsX80)
def wsX8_has : List Cond := .code yX8_has cX8_has 3 (some .long) :: ([.fieldLink RX8 157 "SongOfficeModel" "bargains" "I", .constantLong RX8 227 (-1), .fieldLink RX8 78 "SongOfficeModel" "kept" "[J", .fieldLink RX8 81 "SongOfficeModel" "came" "[J", .fieldLink RX8 22 "SongOfficeModel" "kind" "[I", .fieldLink RX8 34 "SongOfficeModel" "bx" "[I", .constantLong RX8 194 (1000000), .fieldLink RX8 84 "SongOfficeModel" "bags" "[J", .methodLink RX8 261 yX8_inBags, .instanceMethod yX8_inBags, .selects RX8 yX8_inBags yX8_inBags, .initialized RX8, .code yX8_inBags cX8_inBags 5 (some .long), .methodLink RX8 196 yX8_bag, .static yX8_bag, .code yX8_bag cX8_bag 3 (some .int)] ++ wsX80)
def wsX8_line : List Cond := .code yX8_line cX8_line 3 (some .long) :: ([.fieldLink RX8 178 "SongOfficeModel" "lines" "I", .constantLong RX8 227 (-1), .fieldLink RX8 108 "SongOfficeModel" "toldWork" "[I", .fieldLink RX8 111 "SongOfficeModel" "toldHand" "[I", .fieldLink RX8 114 "SongOfficeModel" "toldFrom" "[I", .fieldLink RX8 117 "SongOfficeModel" "toldMites" "[J", .fieldLink RX8 120 "SongOfficeModel" "toldPurse" "[J"] ++ wsX80)
def wsX8_count : List Cond := .code yX8_count cX8_count 5 (some .long) :: ([.fieldLink RX8 136 "SongOfficeModel" "term" "I", .fieldLink RX8 157 "SongOfficeModel" "bargains" "I", .fieldLink RX8 178 "SongOfficeModel" "lines" "I", .fieldLink RX8 93 "SongOfficeModel" "cameIn" "[J", .fieldLink RX8 90 "SongOfficeModel" "filled" "[I", .fieldLink RX8 229 "SongOfficeModel" "sentAll" "J", .constantLong RX8 227 (-1), .fieldLink RX8 64 "SongOfficeModel" "torn" "[I", .fieldLink RX8 258 "SongOfficeModel" "settled" "I"] ++ wsX80)
def wsJ9_max_7cf53 : List Cond := .code yJ9_max_7cf53 cJ9_max_7cf53 2 (some .int) :: ([])
def wsJ9_max_f86c9 : List Cond := .code yJ9_max_f86c9 cJ9_max_f86c9 4 (some .long) :: ([])
def wsJ9_min_7cf53 : List Cond := .code yJ9_min_7cf53 cJ9_min_7cf53 2 (some .int) :: ([])
def wsJ9_min_f86c9 : List Cond := .code yJ9_min_f86c9 cJ9_min_f86c9 4 (some .long) :: ([])
def wsL_law_r1 : List Cond := [Cond.classLink RL 7 RX7, Cond.instantiable RX7 7, Cond.initialized RX7, Cond.classLink RL 10 RX8, Cond.instantiable RX8 47, Cond.initialized RX8, Cond.methodLink RL 9 yX7_init, Cond.instanceMethod yX7_init, Cond.code yX7_init cX7_init 2 none, Cond.methodLink RX7 1 objectInit, Cond.instanceMethod objectInit, Cond.code objectInit ⟨#[0xb1]⟩ 1 none, Cond.classLink RX7 7 RX6, Cond.instantiable RX6 4, Cond.initialized RX6, Cond.fieldLink RX7 10 "SongOffice" "shares" "LSongOffice$ShareBook;", Cond.classLink RX7 16 RX0, Cond.instantiable RX0 9, Cond.initialized RX0, Cond.fieldLink RX7 19 "SongOffice" "bargains" "LSongOffice$BargainBook;", Cond.classLink RX7 23 RX4, Cond.instantiable RX4 6, Cond.initialized RX4, Cond.fieldLink RX7 26 "SongOffice" "reports" "LSongOffice$ReportBook;"]
def wsL_law_r2 : List Cond := [Cond.classLink RX7 30 RX5, Cond.instantiable RX5 5, Cond.initialized RX5, Cond.fieldLink RX7 33 "SongOffice" "sentBack" "LSongOffice$SentBook;", Cond.classLink RX7 37 RX1, Cond.instantiable RX1 4, Cond.initialized RX1, Cond.classLink RX7 42 RX2, Cond.instantiable RX2 16, Cond.initialized RX2, Cond.fieldLink RX7 47 "SongOffice" "standing" "LSongOffice$Ledger;", Cond.fieldLink RX7 51 "SongOffice" "anew" "LSongOffice$Ledger;", Cond.instanceMethod yX6_init, Cond.code yX6_init cX6_init 1 none, Cond.methodLink RX6 3 objectInit, Cond.arrayClass .int, Cond.fieldLink RX6 9 "SongOffice$ShareBook" "sets" "[I", Cond.fieldLink RX6 15 "SongOffice$ShareBook" "days" "[I", Cond.fieldLink RX6 18 "SongOffice$ShareBook" "hands" "[I", Cond.fieldLink RX6 21 "SongOffice$ShareBook" "parts" "[I", Cond.instanceMethod yX0_init, Cond.code yX0_init cX0_init 1 none, Cond.methodLink RX0 3 objectInit, Cond.fieldLink RX0 9 "SongOffice$BargainBook" "kinds" "[I"]
def wsL_law_r3 : List Cond := [Cond.fieldLink RX0 15 "SongOffice$BargainBook" "hands" "[I", Cond.fieldLink RX0 18 "SongOffice$BargainBook" "works" "[I", Cond.fieldLink RX0 21 "SongOffice$BargainBook" "days" "[I", Cond.fieldLink RX0 24 "SongOffice$BargainBook" "x" "[I", Cond.fieldLink RX0 27 "SongOffice$BargainBook" "y" "[I", Cond.fieldLink RX0 30 "SongOffice$BargainBook" "z" "[I", Cond.fieldLink RX0 33 "SongOffice$BargainBook" "takers" "[I", Cond.instanceMethod yX4_init, Cond.code yX4_init cX4_init 1 none, Cond.methodLink RX4 3 objectInit, Cond.fieldLink RX4 9 "SongOffice$ReportBook" "coins" "[I", Cond.fieldLink RX4 15 "SongOffice$ReportBook" "ways" "[I", Cond.fieldLink RX4 18 "SongOffice$ReportBook" "places" "[I", Cond.fieldLink RX4 21 "SongOffice$ReportBook" "order" "[I", Cond.fieldLink RX4 24 "SongOffice$ReportBook" "sizes" "[I", Cond.fieldLink RX4 27 "SongOffice$ReportBook" "openWorks" "[I", Cond.instanceMethod yX5_init, Cond.code yX5_init cX5_init 1 none, Cond.methodLink RX5 3 objectInit, Cond.fieldLink RX5 9 "SongOffice$SentBook" "hands" "[I", Cond.fieldLink RX5 15 "SongOffice$SentBook" "coins" "[I", Cond.fieldLink RX5 18 "SongOffice$SentBook" "terms" "[I", Cond.methodLink RX7 39 yX1_init, Cond.instanceMethod yX1_init]
def wsL_law_r4 : List Cond := [Cond.code yX1_init cX1_init 5 none, Cond.methodLink RX1 1 objectInit, Cond.fieldLink RX1 7 "SongOffice$Books" "shares" "LSongOffice$ShareBook;", Cond.fieldLink RX1 13 "SongOffice$Books" "bargains" "LSongOffice$BargainBook;", Cond.fieldLink RX1 17 "SongOffice$Books" "reports" "LSongOffice$ReportBook;", Cond.fieldLink RX1 21 "SongOffice$Books" "sentBack" "LSongOffice$SentBook;", Cond.methodLink RX7 44 yX2_init, Cond.instanceMethod yX2_init, Cond.code yX2_init cX2_init 3 none, Cond.methodLink RX2 3 objectInit, Cond.arrayClass .long, Cond.fieldLink RX2 9 "SongOffice$Ledger" "purse" "[J", Cond.fieldLink RX2 15 "SongOffice$Ledger" "debt" "[J", Cond.fieldLink RX2 18 "SongOffice$Ledger" "filled" "[J", Cond.fieldLink RX2 21 "SongOffice$Ledger" "dues" "[I", Cond.fieldLink RX2 25 "SongOffice$Ledger" "kept" "[J", Cond.fieldLink RX2 28 "SongOffice$Ledger" "came" "[J", Cond.fieldLink RX2 31 "SongOffice$Ledger" "bags" "[J", Cond.fieldLink RX2 34 "SongOffice$Books" "shares" "LSongOffice$ShareBook;", Cond.fieldLink RX2 40 "SongOffice$Ledger" "shares" "LSongOffice$ShareBook;", Cond.fieldLink RX2 41 "SongOffice$Books" "bargains" "LSongOffice$BargainBook;", Cond.fieldLink RX2 45 "SongOffice$Ledger" "bargains" "LSongOffice$BargainBook;", Cond.fieldLink RX2 46 "SongOffice$Books" "reports" "LSongOffice$ReportBook;", Cond.fieldLink RX2 50 "SongOffice$Ledger" "reports" "LSongOffice$ReportBook;"]
def wsL_law_r5 : List Cond := [Cond.fieldLink RX2 51 "SongOffice$Books" "sentBack" "LSongOffice$SentBook;", Cond.fieldLink RX2 55 "SongOffice$Ledger" "sentBack" "LSongOffice$SentBook;", Cond.classLink RX2 56 RX3, Cond.instantiable RX3 7, Cond.initialized RX3, Cond.fieldLink RX2 61 "SongOffice$Ledger" "lines" "LSongOffice$LineBook;", Cond.methodLink RX2 58 yX3_init, Cond.instanceMethod yX3_init, Cond.code yX3_init cX3_init 2 none, Cond.methodLink RX3 1 objectInit, Cond.methodLink RX3 7 Lib.Math.max.name, Cond.static Lib.Math.max.name, Cond.initialized "java/lang/Math", Cond.code Lib.Math.max.name Lib.Math.max.code 2 (some .int), Cond.fieldLink RX3 13 "SongOffice$LineBook" "room" "I", Cond.fieldLink RX3 19 "SongOffice$LineBook" "work" "[I", Cond.fieldLink RX3 23 "SongOffice$LineBook" "owner" "[I", Cond.fieldLink RX3 26 "SongOffice$LineBook" "from" "[I", Cond.fieldLink RX3 29 "SongOffice$LineBook" "began" "[J", Cond.fieldLink RX3 33 "SongOffice$LineBook" "ended" "[J", Cond.methodLink RL 12 yX8_init, Cond.instanceMethod yX8_init, Cond.code yX8_init cX8_init 2 none, Cond.methodLink RX8 1 objectInit]
def wsL_law_r6 : List Cond := [Cond.fieldLink RX8 7 "SongOfficeModel" "setMany" "[I", Cond.fieldLink RX8 13 "SongOfficeModel" "setDay" "[I", Cond.fieldLink RX8 16 "SongOfficeModel" "setHand" "[I", Cond.fieldLink RX8 19 "SongOfficeModel" "setPart" "[I", Cond.fieldLink RX8 22 "SongOfficeModel" "kind" "[I", Cond.fieldLink RX8 25 "SongOfficeModel" "hand" "[I", Cond.fieldLink RX8 28 "SongOfficeModel" "works" "[I", Cond.fieldLink RX8 31 "SongOfficeModel" "since" "[I", Cond.fieldLink RX8 34 "SongOfficeModel" "bx" "[I", Cond.fieldLink RX8 37 "SongOfficeModel" "by" "[I", Cond.fieldLink RX8 40 "SongOfficeModel" "bz" "[I", Cond.fieldLink RX8 43 "SongOfficeModel" "taker" "[I", Cond.fieldLink RX8 46 "SongOfficeModel" "first" "[I", Cond.fieldLink RX8 49 "SongOfficeModel" "second" "[I", Cond.fieldLink RX8 52 "SongOfficeModel" "third" "[I", Cond.fieldLink RX8 55 "SongOfficeModel" "how" "[I", Cond.fieldLink RX8 58 "SongOfficeModel" "order" "[I", Cond.fieldLink RX8 61 "SongOfficeModel" "orderMany" "[I", Cond.fieldLink RX8 64 "SongOfficeModel" "torn" "[I", Cond.arrayClass .boolean, Cond.fieldLink RX8 67 "SongOfficeModel" "mended" "[Z", Cond.fieldLink RX8 71 "SongOfficeModel" "purse" "[J", Cond.fieldLink RX8 75 "SongOfficeModel" "debt" "[J", Cond.fieldLink RX8 78 "SongOfficeModel" "kept" "[J"]
def wsL_law_r7 : List Cond := [Cond.fieldLink RX8 81 "SongOfficeModel" "came" "[J", Cond.fieldLink RX8 84 "SongOfficeModel" "bags" "[J", Cond.fieldLink RX8 87 "SongOfficeModel" "dues" "[I", Cond.fieldLink RX8 90 "SongOfficeModel" "filled" "[I", Cond.fieldLink RX8 93 "SongOfficeModel" "cameIn" "[J", Cond.fieldLink RX8 96 "SongOfficeModel" "lineHand" "[I", Cond.fieldLink RX8 99 "SongOfficeModel" "lineNext" "[I", Cond.fieldLink RX8 102 "SongOfficeModel" "lineTold" "[I", Cond.fieldLink RX8 105 "SongOfficeModel" "lineLeft" "[J", Cond.fieldLink RX8 108 "SongOfficeModel" "toldWork" "[I", Cond.fieldLink RX8 111 "SongOfficeModel" "toldHand" "[I", Cond.fieldLink RX8 114 "SongOfficeModel" "toldFrom" "[I", Cond.fieldLink RX8 117 "SongOfficeModel" "toldMites" "[J", Cond.fieldLink RX8 120 "SongOfficeModel" "toldPurse" "[J", Cond.fieldLink RX8 123 "SongOfficeModel" "sentHand" "[I", Cond.fieldLink RX8 126 "SongOfficeModel" "sentCoins" "[I", Cond.fieldLink RX8 129 "SongOfficeModel" "sentTerm" "[I", Cond.methodLink RL 13 yX7_share, Cond.instanceMethod yX7_share, Cond.selects RX7 yX7_share yX7_share, Cond.code yX7_share cX7_share 12 (some .int), Cond.fieldLink RX7 82 "SongOffice$ShareBook" "sets" "[I", Cond.methodLink RX7 54 yX7_isWork, Cond.static yX7_isWork]
def wsL_law_r8 : List Cond := [Cond.code yX7_isWork cX7_isWork 1 (some .boolean), Cond.methodLink RX7 58 yX7_isDayAhead, Cond.instanceMethod yX7_isDayAhead, Cond.selects RX7 yX7_isDayAhead yX7_isDayAhead, Cond.code yX7_isDayAhead cX7_isDayAhead 2 (some .boolean), Cond.fieldLink RX7 105 "SongOffice$Ledger" "closed" "I", Cond.methodLink RX7 61 yX6_hasRoom, Cond.instanceMethod yX6_hasRoom, Cond.selects RX6 yX6_hasRoom yX6_hasRoom, Cond.code yX6_hasRoom cX6_hasRoom 4 (some .boolean), Cond.methodLink RX7 65 yX7_isHand, Cond.static yX7_isHand, Cond.code yX7_isHand cX7_isHand 1 (some .boolean), Cond.methodLink RX7 68 yX7_isPart, Cond.static yX7_isPart, Cond.code yX7_isPart cX7_isPart 1 (some .boolean), Cond.methodLink RX7 71 yX7_isSharer, Cond.static yX7_isSharer, Cond.code yX7_isSharer cX7_isSharer 2 (some .boolean), Cond.methodLink RX7 74 yX6_addSet, Cond.instanceMethod yX6_addSet, Cond.selects RX6 yX6_addSet yX6_addSet, Cond.code yX6_addSet cX6_addSet 4 (some .int), Cond.methodLink RX7 78 yX6_put]
def wsL_law_r9 : List Cond := [Cond.instanceMethod yX6_put, Cond.selects RX6 yX6_put yX6_put, Cond.code yX6_put cX6_put 5 none, Cond.methodLink RL 17 yX8_share, Cond.instanceMethod yX8_share, Cond.selects RX8 yX8_share yX8_share, Cond.code yX8_share cX8_share 11 (some .int), Cond.methodLink RX8 140 yX8_isWork, Cond.static yX8_isWork, Cond.code yX8_isWork cX8_isWork 1 (some .boolean), Cond.methodLink RX8 132 yX8_isHand, Cond.static yX8_isHand, Cond.code yX8_isHand cX8_isHand 1 (some .boolean), Cond.methodLink RX8 143 yX8_isPart, Cond.static yX8_isPart, Cond.code yX8_isPart cX8_isPart 2 (some .boolean), Cond.methodLink RX8 147 yX8_isDay, Cond.instanceMethod yX8_isDay, Cond.selects RX8 yX8_isDay yX8_isDay, Cond.code yX8_isDay cX8_isDay 2 (some .boolean), Cond.fieldLink RX8 136 "SongOfficeModel" "term" "I", Cond.methodLink RL 18 yX7_bargain, Cond.instanceMethod yX7_bargain, Cond.selects RX7 yX7_bargain yX7_bargain]
def wsL_law_r10 : List Cond := [Cond.code yX7_bargain cX7_bargain 10 (some .int), Cond.fieldLink RX7 86 "SongOffice$BargainBook" "size" "I", Cond.methodLink RX7 90 yX7_termsFit, Cond.static yX7_termsFit, Cond.code yX7_termsFit cX7_termsFit 4 (some .boolean), Cond.methodLink RX7 124 yX7_isSum, Cond.static yX7_isSum, Cond.code yX7_isSum cX7_isSum 1 (some .boolean), Cond.constant RX7 252 (1000000), Cond.methodLink RX7 94 yX7_passesOn, Cond.static yX7_passesOn, Cond.code yX7_passesOn cX7_passesOn 1 (some .boolean), Cond.methodLink RX7 97 yX0_add, Cond.instanceMethod yX0_add, Cond.selects RX0 yX0_add yX0_add, Cond.code yX0_add cX0_add 6 (some .int), Cond.fieldLink RX0 36 "SongOffice$BargainBook" "size" "I", Cond.methodLink RX7 101 yX0_agree, Cond.instanceMethod yX0_agree, Cond.selects RX0 yX0_agree yX0_agree, Cond.code yX0_agree cX0_agree 6 none, Cond.methodLink RL 21 yX8_bargain, Cond.instanceMethod yX8_bargain, Cond.selects RX8 yX8_bargain yX8_bargain]
def wsL_law_r11 : List Cond := [Cond.code yX8_bargain cX8_bargain 10 (some .int), Cond.fieldLink RX8 157 "SongOfficeModel" "bargains" "I", Cond.methodLink RX8 160 yX8_areGood, Cond.static yX8_areGood, Cond.code yX8_areGood cX8_areGood 7 (some .boolean), Cond.methodLink RX8 151 yX8_isThousandth, Cond.static yX8_isThousandth, Cond.code yX8_isThousandth cX8_isThousandth 1 (some .boolean), Cond.methodLink RX8 154 yX8_isSum, Cond.static yX8_isSum, Cond.code yX8_isSum cX8_isSum 1 (some .boolean), Cond.constant RX8 150 (1000000), Cond.methodLink RL 22 yX7_report, Cond.instanceMethod yX7_report, Cond.selects RX7 yX7_report yX7_report, Cond.code yX7_report cX7_report 7 (some .boolean), Cond.methodLink RX7 108 yX7_reportFits, Cond.instanceMethod yX7_reportFits, Cond.selects RX7 yX7_reportFits yX7_reportFits, Cond.code yX7_reportFits cX7_reportFits 6 (some .boolean), Cond.methodLink RX7 249 yX7_isTold, Cond.static yX7_isTold, Cond.code yX7_isTold cX7_isTold 1 (some .boolean), Cond.methodLink RX7 112 yX4_put]
def wsL_law_r12 : List Cond := [Cond.instanceMethod yX4_put, Cond.selects RX4 yX4_put yX4_put, Cond.code yX4_put cX4_put 8 none, Cond.methodLink RL 26 yX8_report, Cond.instanceMethod yX8_report, Cond.selects RX8 yX8_report yX8_report, Cond.code yX8_report cX8_report 6 (some .boolean), Cond.methodLink RX8 167 yX8_isReport, Cond.instanceMethod yX8_isReport, Cond.selects RX8 yX8_isReport yX8_isReport, Cond.code yX8_isReport cX8_isReport 6 (some .boolean), Cond.methodLink RX8 164 yX8_areCoins, Cond.static yX8_areCoins, Cond.code yX8_areCoins cX8_areCoins 1 (some .boolean), Cond.methodLink RX8 171 yX8_puts, Cond.instanceMethod yX8_puts, Cond.selects RX8 yX8_puts yX8_puts, Cond.code yX8_puts cX8_puts 8 none, Cond.methodLink RL 27 yX7_tear, Cond.instanceMethod yX7_tear, Cond.selects RX7 yX7_tear yX7_tear, Cond.code yX7_tear cX7_tear 3 (some .boolean), Cond.methodLink RX7 115 Lib.Math.max.name, Cond.methodLink RX7 120 yX4_tearAt]
def wsL_law_r13 : List Cond := [Cond.instanceMethod yX4_tearAt, Cond.selects RX4 yX4_tearAt yX4_tearAt, Cond.code yX4_tearAt cX4_tearAt 3 none, Cond.methodLink RL 31 yX8_tear, Cond.instanceMethod yX8_tear, Cond.selects RX8 yX8_tear yX8_tear, Cond.code yX8_tear cX8_tear 2 (some .boolean), Cond.methodLink RL 32 yX7_sent, Cond.instanceMethod yX7_sent, Cond.selects RX7 yX7_sent yX7_sent, Cond.code yX7_sent cX7_sent 4 (some .long), Cond.fieldLink RX7 127 "SongOffice$SentBook" "size" "I", Cond.constantLong RX7 128 (-1), Cond.fieldLink RX7 137 "SongOffice$Ledger" "lacked" "J", Cond.methodLink RX7 130 yX5_add, Cond.instanceMethod yX5_add, Cond.selects RX5 yX5_add yX5_add, Cond.code yX5_add cX5_add 4 none, Cond.fieldLink RX5 21 "SongOffice$SentBook" "size" "I", Cond.fieldLink RX5 25 "SongOffice$SentBook" "coinsInAll" "J", Cond.methodLink RX7 133 yX2_reckonTo, Cond.instanceMethod yX2_reckonTo, Cond.selects RX2 yX2_reckonTo yX2_reckonTo, Cond.code yX2_reckonTo cX2_reckonTo 4 none]
def wsL_law_r14 : List Cond := [Cond.methodLink RX2 85 Lib.Math.min.name, Cond.static Lib.Math.min.name, Cond.code Lib.Math.min.name Lib.Math.min.code 2 (some .int), Cond.fieldLink RX2 78 "SongOffice$Ledger" "closed" "I", Cond.methodLink RX2 91 yX2_takeSentOf, Cond.instanceMethod yX2_takeSentOf, Cond.selects RX2 yX2_takeSentOf yX2_takeSentOf, Cond.code yX2_takeSentOf cX2_takeSentOf 2 none, Cond.fieldLink RX2 82 "SongOffice$Ledger" "sentTaken" "I", Cond.fieldLink RX2 124 "SongOffice$SentBook" "size" "I", Cond.fieldLink RX2 129 "SongOffice$SentBook" "terms" "[I", Cond.fieldLink RX2 132 "SongOffice$SentBook" "hands" "[I", Cond.fieldLink RX2 135 "SongOffice$SentBook" "coins" "[I", Cond.constantLong RX2 110 (1000000), Cond.methodLink RX2 138 yX2_takeSent, Cond.instanceMethod yX2_takeSent, Cond.selects RX2 yX2_takeSent yX2_takeSent, Cond.code yX2_takeSent cX2_takeSent 10 none, Cond.fieldLink RX2 142 "SongOffice$BargainBook" "size" "I", Cond.methodLink RX2 147 Lib.MathLoose.min_long.x, Cond.static Lib.MathLoose.min_long.x, Cond.code Lib.MathLoose.min_long.x Lib.MathLoose.min_long.code 4 (some .long), Cond.fieldLink RX2 150 "SongOffice$Ledger" "lacked" "J", Cond.methodLink RX2 143 yX0_isReserveOf]
def wsL_law_r15 : List Cond := [Cond.instanceMethod yX0_isReserveOf, Cond.selects RX0 yX0_isReserveOf yX0_isReserveOf, Cond.code yX0_isReserveOf cX0_isReserveOf 3 (some .boolean), Cond.methodLink RX2 94 yX2_closeTerm, Cond.instanceMethod yX2_closeTerm, Cond.selects RX2 yX2_closeTerm yX2_closeTerm, Cond.code yX2_closeTerm cX2_closeTerm 3 none, Cond.fieldLink RX2 153 "SongOffice$LineBook" "size" "I", Cond.methodLink RX2 154 yX4_sizeOf, Cond.instanceMethod yX4_sizeOf, Cond.selects RX4 yX4_sizeOf yX4_sizeOf, Cond.code yX4_sizeOf cX4_sizeOf 2 (some .int), Cond.methodLink RX2 160 yX4_workAt, Cond.instanceMethod yX4_workAt, Cond.selects RX4 yX4_workAt yX4_workAt, Cond.code yX4_workAt cX4_workAt 3 (some .int), Cond.methodLink RX2 163 yX4_isOpen, Cond.instanceMethod yX4_isOpen, Cond.selects RX4 yX4_isOpen yX4_isOpen, Cond.code yX4_isOpen cX4_isOpen 3 (some .boolean), Cond.methodLink RX2 166 yX2_bringIn, Cond.instanceMethod yX2_bringIn, Cond.selects RX2 yX2_bringIn yX2_bringIn, Cond.code yX2_bringIn cX2_bringIn 10 none]
def wsL_law_r16 : List Cond := [Cond.fieldLink RX2 74 "SongOffice$Ledger" "cameIn" "J", Cond.fieldLink RX2 194 "SongOffice$ShareBook" "parts" "[I", Cond.constantLong RX2 197 (1000), Cond.fieldLink RX2 199 "SongOffice$ShareBook" "hands" "[I", Cond.methodLink RX2 178 yX4_wayOf, Cond.instanceMethod yX4_wayOf, Cond.selects RX4 yX4_wayOf yX4_wayOf, Cond.code yX4_wayOf cX4_wayOf 3 (some .int), Cond.methodLink RX2 181 yX4_coinsOf, Cond.instanceMethod yX4_coinsOf, Cond.selects RX4 yX4_coinsOf yX4_coinsOf, Cond.code yX4_coinsOf cX4_coinsOf 4 (some .int), Cond.methodLink RX2 185 yX2_lastDay, Cond.instanceMethod yX2_lastDay, Cond.selects RX2 yX2_lastDay yX2_lastDay, Cond.code yX2_lastDay cX2_lastDay 1 (some .int), Cond.methodLink RX2 189 yX6_setAt, Cond.instanceMethod yX6_setAt, Cond.selects RX6 yX6_setAt yX6_setAt, Cond.code yX6_setAt cX6_setAt 5 (some .int), Cond.methodLink RX2 200 yX2_runLine, Cond.instanceMethod yX2_runLine, Cond.selects RX2 yX2_runLine yX2_runLine, Cond.code yX2_runLine cX2_runLine 15 none]
def wsL_law_r17 : List Cond := [Cond.fieldLink RX2 116 "SongOffice$BargainBook" "kinds" "[I", Cond.fieldLink RX2 220 "SongOffice$BargainBook" "takers" "[I", Cond.methodLink RX2 204 yX3_begin, Cond.instanceMethod yX3_begin, Cond.selects RX3 yX3_begin yX3_begin, Cond.code yX3_begin cX3_begin 7 (some .int), Cond.fieldLink RX3 36 "SongOffice$LineBook" "size" "I", Cond.methodLink RX2 212 yX0_holdsFor, Cond.instanceMethod yX0_holdsFor, Cond.selects RX0 yX0_holdsFor yX0_holdsFor, Cond.code yX0_holdsFor cX0_holdsFor 5 (some .boolean), Cond.methodLink RX2 216 yX2_takenBy, Cond.instanceMethod yX2_takenBy, Cond.selects RX2 yX2_takenBy yX2_takenBy, Cond.code yX2_takenBy cX2_takenBy 8 (some .long), Cond.fieldLink RX2 121 "SongOffice$BargainBook" "x" "[I", Cond.fieldLink RX2 226 "SongOffice$BargainBook" "y" "[I", Cond.methodLink RX2 229 Lib.MathLoose.max_long.x, Cond.static Lib.MathLoose.max_long.x, Cond.code Lib.MathLoose.max_long.x Lib.MathLoose.max_long.code 4 (some .long), Cond.fieldLink RX2 232 "SongOffice$BargainBook" "z" "[I", Cond.methodLink RX2 223 yX3_end, Cond.instanceMethod yX3_end, Cond.selects RX3 yX3_end yX3_end]
def wsL_law_r18 : List Cond := [Cond.code yX3_end cX3_end 4 none, Cond.methodLink RX2 169 yX2_emptyOldBags, Cond.instanceMethod yX2_emptyOldBags, Cond.selects RX2 yX2_emptyOldBags yX2_emptyOldBags, Cond.code yX2_emptyOldBags cX2_emptyOldBags 3 none, Cond.fieldLink RX2 235 "SongOffice$BargainBook" "hands" "[I", Cond.methodLink RX2 172 yX2_payHands, Cond.instanceMethod yX2_payHands, Cond.selects RX2 yX2_payHands yX2_payHands, Cond.code yX2_payHands cX2_payHands 4 none, Cond.methodLink RX2 175 yX2_fillFloors, Cond.instanceMethod yX2_fillFloors, Cond.selects RX2 yX2_fillFloors yX2_fillFloors, Cond.code yX2_fillFloors cX2_fillFloors 7 none, Cond.fieldLink RX2 236 "SongOffice$BargainBook" "days" "[I", Cond.methodLink RX2 112 yX2_duesOf, Cond.instanceMethod yX2_duesOf, Cond.selects RX2 yX2_duesOf yX2_duesOf, Cond.code yX2_duesOf cX2_duesOf 7 (some .long), Cond.methodLink RL 36 yX8_sent, Cond.instanceMethod yX8_sent, Cond.selects RX8 yX8_sent yX8_sent, Cond.code yX8_sent cX8_sent 3 (some .long), Cond.fieldLink RX8 224 "SongOfficeModel" "sents" "I"]
def wsL_law_r19 : List Cond := [Cond.constantLong RX8 227 (-1), Cond.fieldLink RX8 229 "SongOfficeModel" "sentAll" "J", Cond.constantLong RX8 194 (1000000), Cond.methodLink RX8 233 yX8_takes, Cond.instanceMethod yX8_takes, Cond.selects RX8 yX8_takes yX8_takes, Cond.code yX8_takes cX8_takes 11 (some .long), Cond.methodLink RX8 196 yX8_bag, Cond.static yX8_bag, Cond.code yX8_bag cX8_bag 3 (some .int), Cond.methodLink RL 37 yX7_close, Cond.instanceMethod yX7_close, Cond.selects RX7 yX7_close yX7_close, Cond.code yX7_close cX7_close 2 (some .int), Cond.methodLink RL 41 yX8_close, Cond.instanceMethod yX8_close, Cond.selects RX8 yX8_close yX8_close, Cond.code yX8_close cX8_close 1 (some .int), Cond.fieldLink RX8 178 "SongOfficeModel" "lines" "I", Cond.methodLink RX8 220 yX8_closes, Cond.instanceMethod yX8_closes, Cond.selects RX8 yX8_closes yX8_closes, Cond.code yX8_closes cX8_closes 6 none, Cond.methodLink RX8 175 yX8_isOpen]
def wsL_law_r20 : List Cond := [Cond.instanceMethod yX8_isOpen, Cond.selects RX8 yX8_isOpen yX8_isOpen, Cond.code yX8_isOpen cX8_isOpen 3 (some .boolean), Cond.methodLink RX8 207 yX8_comes, Cond.instanceMethod yX8_comes, Cond.selects RX8 yX8_comes yX8_comes, Cond.code yX8_comes cX8_comes 9 none, Cond.constantLong RX8 192 (1000), Cond.methodLink RX8 200 yX8_setOn, Cond.instanceMethod yX8_setOn, Cond.selects RX8 yX8_setOn yX8_setOn, Cond.code yX8_setOn cX8_setOn 5 (some .int), Cond.methodLink RX8 204 yX8_goes, Cond.instanceMethod yX8_goes, Cond.selects RX8 yX8_goes yX8_goes, Cond.code yX8_goes cX8_goes 10 none, Cond.fieldLink RX8 181 "SongOfficeModel" "deep" "I", Cond.methodLink RX8 184 yX8_begins, Cond.instanceMethod yX8_begins, Cond.selects RX8 yX8_begins yX8_begins, Cond.code yX8_begins cX8_begins 8 none, Cond.methodLink RX8 188 yX8_meets, Cond.instanceMethod yX8_meets, Cond.selects RX8 yX8_meets yX8_meets]
def wsL_law_r21 : List Cond := [Cond.code yX8_meets cX8_meets 13 none, Cond.methodLink RX8 210 yX8_pays, Cond.instanceMethod yX8_pays, Cond.selects RX8 yX8_pays yX8_pays, Cond.code yX8_pays cX8_pays 7 none, Cond.methodLink RX8 217 yX8_dueAt, Cond.static yX8_dueAt, Cond.code yX8_dueAt cX8_dueAt 3 (some .int), Cond.methodLink RX8 214 yX8_fills, Cond.instanceMethod yX8_fills, Cond.selects RX8 yX8_fills yX8_fills, Cond.code yX8_fills cX8_fills 8 none, Cond.methodLink RL 42 yX7_due, Cond.instanceMethod yX7_due, Cond.selects RX7 yX7_due yX7_due, Cond.code yX7_due cX7_due 3 (some .int), Cond.fieldLink RX7 144 "SongOffice$Ledger" "dues" "[I", Cond.methodLink RX7 141 yX7_isClosed, Cond.instanceMethod yX7_isClosed, Cond.selects RX7 yX7_isClosed yX7_isClosed, Cond.code yX7_isClosed cX7_isClosed 2 (some .boolean), Cond.methodLink RL 46 yX8_due, Cond.instanceMethod yX8_due, Cond.selects RX8 yX8_due yX8_due]
def wsL_law_r22 : List Cond := [Cond.code yX8_due cX8_due 3 (some .int), Cond.methodLink RL 47 yX7_hand, Cond.instanceMethod yX7_hand, Cond.selects RX7 yX7_hand yX7_hand, Cond.code yX7_hand cX7_hand 3 (some .long), Cond.fieldLink RX7 147 "SongOffice$Ledger" "purse" "[J", Cond.fieldLink RX7 151 "SongOffice$Ledger" "debt" "[J", Cond.fieldLink RX7 158 "SongOffice$Ledger" "filled" "[J", Cond.methodLink RX7 154 yX2_allDues, Cond.instanceMethod yX2_allDues, Cond.selects RX2 yX2_allDues yX2_allDues, Cond.code yX2_allDues cX2_allDues 2 (some .long), Cond.methodLink RX7 161 yX7_owedTo, Cond.instanceMethod yX7_owedTo, Cond.selects RX7 yX7_owedTo yX7_owedTo, Cond.code yX7_owedTo cX7_owedTo 2 (some .long), Cond.methodLink RX7 246 yX2_worth, Cond.instanceMethod yX2_worth, Cond.selects RX2 yX2_worth yX2_worth, Cond.code yX2_worth cX2_worth 2 (some .long), Cond.methodLink RX2 107 yX2_allDues, Cond.methodLink RL 50 yX8_hand, Cond.instanceMethod yX8_hand, Cond.selects RX8 yX8_hand yX8_hand]
def wsL_law_r23 : List Cond := [Cond.code yX8_hand cX8_hand 3 (some .long), Cond.methodLink RX8 244 yX8_duesOf, Cond.instanceMethod yX8_duesOf, Cond.selects RX8 yX8_duesOf yX8_duesOf, Cond.code yX8_duesOf cX8_duesOf 6 (some .long), Cond.methodLink RX8 251 yX8_anew, Cond.instanceMethod yX8_anew, Cond.selects RX8 yX8_anew yX8_anew, Cond.code yX8_anew cX8_anew 2 none, Cond.methodLink RX8 237 yX8_empties, Cond.instanceMethod yX8_empties, Cond.selects RX8 yX8_empties yX8_empties, Cond.code yX8_empties cX8_empties 2 none, Cond.methodLink RX8 240 yX8_sentIn, Cond.instanceMethod yX8_sentIn, Cond.selects RX8 yX8_sentIn yX8_sentIn, Cond.code yX8_sentIn cX8_sentIn 3 none, Cond.methodLink RX8 254 yX8_owed, Cond.instanceMethod yX8_owed, Cond.selects RX8 yX8_owed yX8_owed, Cond.code yX8_owed cX8_owed 2 (some .long), Cond.methodLink RX8 248 yX8_worth, Cond.instanceMethod yX8_worth, Cond.selects RX8 yX8_worth yX8_worth]
def wsL_law_r24 : List Cond := [Cond.code yX8_worth cX8_worth 3 (some .long), Cond.methodLink RL 51 yX7_has, Cond.instanceMethod yX7_has, Cond.selects RX7 yX7_has yX7_has, Cond.code yX7_has cX7_has 3 (some .long), Cond.fieldLink RX7 164 "SongOffice$Ledger" "kept" "[J", Cond.fieldLink RX7 167 "SongOffice$Ledger" "came" "[J", Cond.fieldLink RX7 173 "SongOffice$Ledger" "bags" "[J", Cond.methodLink RX7 170 yX2_stillIn, Cond.instanceMethod yX2_stillIn, Cond.selects RX2 yX2_stillIn yX2_stillIn, Cond.code yX2_stillIn cX2_stillIn 5 (some .long), Cond.methodLink RL 54 yX8_has, Cond.instanceMethod yX8_has, Cond.selects RX8 yX8_has yX8_has, Cond.code yX8_has cX8_has 3 (some .long), Cond.methodLink RX8 261 yX8_inBags, Cond.instanceMethod yX8_inBags, Cond.selects RX8 yX8_inBags yX8_inBags, Cond.code yX8_inBags cX8_inBags 5 (some .long), Cond.methodLink RL 55 yX7_told, Cond.instanceMethod yX7_told, Cond.selects RX7 yX7_told yX7_told, Cond.code yX7_told cX7_told 5 (some .int)]
def wsL_law_r25 : List Cond := [Cond.methodLink RX7 176 yX7_isTheTerm, Cond.instanceMethod yX7_isTheTerm, Cond.selects RX7 yX7_isTheTerm yX7_isTheTerm, Cond.code yX7_isTheTerm cX7_isTheTerm 2 (some .boolean), Cond.methodLink RX7 179 yX4_coinsOf, Cond.methodLink RX7 183 yX4_wayOf, Cond.methodLink RX7 186 yX4_isOpen, Cond.methodLink RX7 189 yX4_placeOf, Cond.instanceMethod yX4_placeOf, Cond.selects RX4 yX4_placeOf yX4_placeOf, Cond.code yX4_placeOf cX4_placeOf 4 (some .int), Cond.methodLink RL 59 yX8_told, Cond.instanceMethod yX8_told, Cond.selects RX8 yX8_told yX8_told, Cond.code yX8_told cX8_told 6 (some .int), Cond.methodLink RL 60 yX7_mend, Cond.instanceMethod yX7_mend, Cond.selects RX7 yX7_mend yX7_mend, Cond.code yX7_mend cX7_mend 7 (some .boolean), Cond.methodLink RX7 192 yX4_bringBack, Cond.instanceMethod yX4_bringBack, Cond.selects RX4 yX4_bringBack yX4_bringBack, Cond.code yX4_bringBack cX4_bringBack 3 none, Cond.methodLink RX7 195 yX2_clear]
def wsL_law_r26 : List Cond := [Cond.instanceMethod yX2_clear, Cond.selects RX2 yX2_clear yX2_clear, Cond.code yX2_clear cX2_clear 1 none, Cond.methodLink RX2 65 yJ7_fill_d0a16, Cond.static yJ7_fill_d0a16, Cond.initialized RJ7, Cond.code yJ7_fill_d0a16 cJ7_fill_d0a16 5 none, Cond.methodLink RX2 71 yJ7_fill_53178, Cond.static yJ7_fill_53178, Cond.code yJ7_fill_53178 cJ7_fill_53178 4 none, Cond.methodLink RL 64 yX8_mend, Cond.instanceMethod yX8_mend, Cond.selects RX8 yX8_mend yX8_mend, Cond.code yX8_mend cX8_mend 7 (some .boolean), Cond.methodLink RL 65 yX7_owe, Cond.instanceMethod yX7_owe, Cond.selects RX7 yX7_owe yX7_owe, Cond.code yX7_owe cX7_owe 4 (some .long), Cond.methodLink RL 69 yX8_owe, Cond.instanceMethod yX8_owe, Cond.selects RX8 yX8_owe yX8_owe, Cond.code yX8_owe cX8_owe 4 (some .long), Cond.methodLink RL 70 yX7_settle, Cond.instanceMethod yX7_settle]
def wsL_law_r27 : List Cond := [Cond.selects RX7 yX7_settle yX7_settle, Cond.code yX7_settle cX7_settle 3 (some .int), Cond.fieldLink RX7 202 "SongOffice" "settled" "I", Cond.methodLink RX7 198 yX2_becomeLike, Cond.instanceMethod yX2_becomeLike, Cond.selects RX2 yX2_becomeLike yX2_becomeLike, Cond.code yX2_becomeLike cX2_becomeLike 5 none, Cond.methodLink RX2 101 arraycopyName, Cond.native arraycopyName, Cond.static arraycopyName, Cond.initialized "java/lang/System", Cond.methodLink RX2 97 yX2_worth, Cond.methodLink RL 73 yX8_settle, Cond.instanceMethod yX8_settle, Cond.selects RX8 yX8_settle yX8_settle, Cond.code yX8_settle cX8_settle 5 (some .int), Cond.fieldLink RX8 258 "SongOfficeModel" "settled" "I", Cond.methodLink RL 74 yX7_line, Cond.instanceMethod yX7_line, Cond.selects RX7 yX7_line yX7_line, Cond.code yX7_line cX7_line 4 (some .long), Cond.fieldLink RX7 205 "SongOffice$Ledger" "lines" "LSongOffice$LineBook;", Cond.fieldLink RX7 214 "SongOffice$LineBook" "work" "[I", Cond.fieldLink RX7 217 "SongOffice$LineBook" "owner" "[I"]
def wsL_law_r28 : List Cond := [Cond.fieldLink RX7 220 "SongOffice$LineBook" "from" "[I", Cond.fieldLink RX7 223 "SongOffice$LineBook" "began" "[J", Cond.fieldLink RX7 226 "SongOffice$LineBook" "ended" "[J", Cond.methodLink RX7 209 yX3_kept, Cond.instanceMethod yX3_kept, Cond.selects RX3 yX3_kept yX3_kept, Cond.code yX3_kept cX3_kept 1 (some .int), Cond.methodLink RX3 39 Lib.Math.min.name, Cond.methodLink RL 77 yX8_line, Cond.instanceMethod yX8_line, Cond.selects RX8 yX8_line yX8_line, Cond.code yX8_line cX8_line 3 (some .long), Cond.methodLink RL 78 yX7_count, Cond.instanceMethod yX7_count, Cond.selects RX7 yX7_count yX7_count, Cond.code yX7_count cX7_count 2 (some .long), Cond.fieldLink RX7 229 "SongOffice$LineBook" "size" "I", Cond.fieldLink RX7 230 "SongOffice$Ledger" "cameIn" "J", Cond.fieldLink RX7 237 "SongOffice$SentBook" "coinsInAll" "J", Cond.constantLong RX7 240 (1000000), Cond.methodLink RX7 233 yX2_allFilled, Cond.instanceMethod yX2_allFilled, Cond.selects RX2 yX2_allFilled yX2_allFilled, Cond.code yX2_allFilled cX2_allFilled 4 (some .long)]
def wsL_law_r29 : List Cond := [Cond.methodLink RX7 242 yX4_tornAt, Cond.instanceMethod yX4_tornAt, Cond.selects RX4 yX4_tornAt yX4_tornAt, Cond.code yX4_tornAt cX4_tornAt 2 (some .int), Cond.methodLink RX4 30 yJ6_bitCount_0f7a4, Cond.static yJ6_bitCount_0f7a4, Cond.initialized RJ6, Cond.code yJ6_bitCount_0f7a4 cJ6_bitCount_0f7a4 1 (some .int), Cond.constant RJ6 265 (1431655765), Cond.constant RJ6 266 (858993459), Cond.constant RJ6 267 (252645135), Cond.methodLink RL 82 yX8_count, Cond.instanceMethod yX8_count, Cond.selects RX8 yX8_count yX8_count, Cond.code yX8_count cX8_count 5 (some .long)]
def wsL_law : List Cond := (wsL_law_r1 ++ (wsL_law_r2 ++ (wsL_law_r3 ++ (wsL_law_r4 ++ (wsL_law_r5 ++ (wsL_law_r6 ++ (wsL_law_r7 ++ (wsL_law_r8 ++ (wsL_law_r9 ++ (wsL_law_r10 ++ (wsL_law_r11 ++ (wsL_law_r12 ++ (wsL_law_r13 ++ (wsL_law_r14 ++ (wsL_law_r15 ++ (wsL_law_r16 ++ (wsL_law_r17 ++ (wsL_law_r18 ++ (wsL_law_r19 ++ (wsL_law_r20 ++ (wsL_law_r21 ++ (wsL_law_r22 ++ (wsL_law_r23 ++ (wsL_law_r24 ++ (wsL_law_r25 ++ (wsL_law_r26 ++ (wsL_law_r27 ++ (wsL_law_r28 ++ wsL_law_r29)))))))))))))))))))))))))))) ++ wsX70 ++ wsX80 ++ wsX60 ++ wsX00 ++ wsX40 ++ wsX50 ++ wsX10 ++ wsX20 ++ wsX30 ++ ([] : List Cond)
abbrev vwCl : List vw_C := [(RX0, TX0, 9), (RX1, TX1, 4), (RX2, TX2, 16), (RX3, TX3, 7), (RX4, TX4, 6), (RX5, TX5, 5), (RX6, TX6, 4), (RX7, TX7, 7), (RX8, TX8, 47)]
end
section
set_option maxRecDepth 20000 in
theorem in_wsL_law_r1 : ∀ w ∈ wsL_law_r1, w ∈ lw_tbl := fun w h => (goodIn_p wsL_law_r1 [54, 57] (by decide +kernel) (by decide +kernel) w h).1
set_option maxRecDepth 20000 in
theorem in_wsL_law_r2 : ∀ w ∈ wsL_law_r2, w ∈ lw_tbl := fun w h => (goodIn_p wsL_law_r2 [62, 85] (by decide +kernel) (by decide +kernel) w h).1
set_option maxRecDepth 20000 in
theorem in_wsL_law_r3 : ∀ w ∈ wsL_law_r3, w ∈ lw_tbl := fun w h => (goodIn_p wsL_law_r3 [128, 153] (by decide +kernel) (by decide +kernel) w h).1
set_option maxRecDepth 20000 in
theorem in_wsL_law_r4 : ∀ w ∈ wsL_law_r4, w ∈ lw_tbl := fun w h => (goodIn_p wsL_law_r4 [181, 204] (by decide +kernel) (by decide +kernel) w h).1
set_option maxRecDepth 20000 in
theorem in_wsL_law_r5 : ∀ w ∈ wsL_law_r5, w ∈ lw_tbl := fun w h => (goodIn_p wsL_law_r5 [210, 214, 632] (by decide +kernel) (by decide +kernel) w h).1
set_option maxRecDepth 20000 in
theorem in_wsL_law_r6 : ∀ w ∈ wsL_law_r6, w ∈ lw_tbl := fun w h => (goodIn_p wsL_law_r6 [] (by decide +kernel) (by decide +kernel) w h).1
set_option maxRecDepth 20000 in
theorem in_wsL_law_r7 : ∀ w ∈ wsL_law_r7, w ∈ lw_tbl := fun w h => (goodIn_p wsL_law_r7 [330] (by decide +kernel) (by decide +kernel) w h).1
set_option maxRecDepth 20000 in
theorem in_wsL_law_r8 : ∀ w ∈ wsL_law_r8, w ∈ lw_tbl := fun w h => (goodIn_p wsL_law_r8 [333, 337, 341, 344, 347, 350, 354] (by decide +kernel) (by decide +kernel) w h).1
set_option maxRecDepth 20000 in
theorem in_wsL_law_r9 : ∀ w ∈ wsL_law_r9, w ∈ lw_tbl := fun w h => (goodIn_p wsL_law_r9 [358, 780, 783, 786, 789, 793] (by decide +kernel) (by decide +kernel) w h).1
set_option maxRecDepth 20000 in
theorem in_wsL_law_r10 : ∀ w ∈ wsL_law_r10, w ∈ lw_tbl := fun w h => (goodIn_p wsL_law_r10 [362, 365, 368, 372, 376, 380] (by decide +kernel) (by decide +kernel) w h).1
set_option maxRecDepth 20000 in
theorem in_wsL_law_r11 : ∀ w ∈ wsL_law_r11, w ∈ lw_tbl := fun w h => (goodIn_p wsL_law_r11 [797, 800, 803, 806, 384, 388, 391] (by decide +kernel) (by decide +kernel) w h).1
set_option maxRecDepth 20000 in
theorem in_wsL_law_r12 : ∀ w ∈ wsL_law_r12, w ∈ lw_tbl := fun w h => (goodIn_p wsL_law_r12 [395, 811, 815, 818, 822, 399] (by decide +kernel) (by decide +kernel) w h).1
set_option maxRecDepth 20000 in
theorem in_wsL_law_r13 : ∀ w ∈ wsL_law_r13, w ∈ lw_tbl := fun w h => (goodIn_p wsL_law_r13 [404, 830, 408, 413, 417] (by decide +kernel) (by decide +kernel) w h).1
set_option maxRecDepth 20000 in
theorem in_wsL_law_r14 : ∀ w ∈ wsL_law_r14, w ∈ lw_tbl := fun w h => (goodIn_p wsL_law_r14 [420, 424, 429, 436] (by decide +kernel) (by decide +kernel) w h).1
set_option maxRecDepth 20000 in
theorem in_wsL_law_r15 : ∀ w ∈ wsL_law_r15, w ∈ lw_tbl := fun w h => (goodIn_p wsL_law_r15 [433, 440, 444, 448, 452, 456] (by decide +kernel) (by decide +kernel) w h).1
set_option maxRecDepth 20000 in
theorem in_wsL_law_r16 : ∀ w ∈ wsL_law_r16, w ∈ lw_tbl := fun w h => (goodIn_p wsL_law_r16 [460, 464, 468, 472, 477] (by decide +kernel) (by decide +kernel) w h).1
set_option maxRecDepth 20000 in
theorem in_wsL_law_r17 : ∀ w ∈ wsL_law_r17, w ∈ lw_tbl := fun w h => (goodIn_p wsL_law_r17 [481, 486, 490, 493] (by decide +kernel) (by decide +kernel) w h).1
set_option maxRecDepth 20000 in
theorem in_wsL_law_r18 : ∀ w ∈ wsL_law_r18, w ∈ lw_tbl := fun w h => (goodIn_p wsL_law_r18 [497, 501, 505, 509, 513, 886] (by decide +kernel) (by decide +kernel) w h).1
set_option maxRecDepth 20000 in
theorem in_wsL_law_r19 : ∀ w ∈ wsL_law_r19, w ∈ lw_tbl := fun w h => (goodIn_p wsL_law_r19 [891, 871, 517, 842, 846] (by decide +kernel) (by decide +kernel) w h).1
set_option maxRecDepth 20000 in
theorem in_wsL_law_r20 : ∀ w ∈ wsL_law_r20, w ∈ lw_tbl := fun w h => (goodIn_p wsL_law_r20 [838, 850, 854, 859, 863] (by decide +kernel) (by decide +kernel) w h).1
set_option maxRecDepth 20000 in
theorem in_wsL_law_r21 : ∀ w ∈ wsL_law_r21, w ∈ lw_tbl := fun w h => (goodIn_p wsL_law_r21 [867, 875, 878, 882, 521, 525] (by decide +kernel) (by decide +kernel) w h).1
set_option maxRecDepth 20000 in
theorem in_wsL_law_r22 : ∀ w ∈ wsL_law_r22, w ∈ lw_tbl := fun w h => (goodIn_p wsL_law_r22 [927, 529, 533, 537, 541] (by decide +kernel) (by decide +kernel) w h).1
set_option maxRecDepth 20000 in
theorem in_wsL_law_r23 : ∀ w ∈ wsL_law_r23, w ∈ lw_tbl := fun w h => (goodIn_p wsL_law_r23 [931, 919, 899, 903, 907, 911] (by decide +kernel) (by decide +kernel) w h).1
set_option maxRecDepth 20000 in
theorem in_wsL_law_r24 : ∀ w ∈ wsL_law_r24, w ∈ lw_tbl := fun w h => (goodIn_p wsL_law_r24 [915, 546, 550, 935, 939, 554] (by decide +kernel) (by decide +kernel) w h).1
set_option maxRecDepth 20000 in
theorem in_wsL_law_r25 : ∀ w ∈ wsL_law_r25, w ∈ lw_tbl := fun w h => (goodIn_p wsL_law_r25 [558, 565, 834, 569, 573] (by decide +kernel) (by decide +kernel) w h).1
set_option maxRecDepth 20000 in
theorem in_wsL_law_r26 : ∀ w ∈ wsL_law_r26, w ∈ lw_tbl := fun w h => (goodIn_p wsL_law_r26 [577, 580, 583, 826, 587, 895] (by decide +kernel) (by decide +kernel) w h).1
set_option maxRecDepth 20000 in
theorem in_wsL_law_r27 : ∀ w ∈ wsL_law_r27, w ∈ lw_tbl := fun w h => (goodIn_p wsL_law_r27 [591, 595, 923, 603] (by decide +kernel) (by decide +kernel) w h).1
set_option maxRecDepth 20000 in
theorem in_wsL_law_r28 : ∀ w ∈ wsL_law_r28, w ∈ lw_tbl := fun w h => (goodIn_p wsL_law_r28 [607, 943, 612, 616] (by decide +kernel) (by decide +kernel) w h).1
set_option maxRecDepth 20000 in
theorem in_wsL_law_r29 : ∀ w ∈ wsL_law_r29, w ∈ lw_tbl := fun w h => (goodIn_p wsL_law_r29 [621, 624, 947] (by decide +kernel) (by decide +kernel) w h).1
set_option maxRecDepth 20000 in
theorem in_wsX70 : ∀ w ∈ wsX70, w ∈ lw_tbl := fun w h => (goodIn_p wsX70 [] (by decide +kernel) (by decide +kernel) w h).1
set_option maxRecDepth 20000 in
theorem in_wsX80 : ∀ w ∈ wsX80, w ∈ lw_tbl := fun w h => (goodIn_p wsX80 [] (by decide +kernel) (by decide +kernel) w h).1
set_option maxRecDepth 20000 in
theorem in_wsX60 : ∀ w ∈ wsX60, w ∈ lw_tbl := fun w h => (goodIn_p wsX60 [] (by decide +kernel) (by decide +kernel) w h).1
set_option maxRecDepth 20000 in
theorem in_wsX00 : ∀ w ∈ wsX00, w ∈ lw_tbl := fun w h => (goodIn_p wsX00 [] (by decide +kernel) (by decide +kernel) w h).1
set_option maxRecDepth 20000 in
theorem in_wsX40 : ∀ w ∈ wsX40, w ∈ lw_tbl := fun w h => (goodIn_p wsX40 [] (by decide +kernel) (by decide +kernel) w h).1
set_option maxRecDepth 20000 in
theorem in_wsX50 : ∀ w ∈ wsX50, w ∈ lw_tbl := fun w h => (goodIn_p wsX50 [] (by decide +kernel) (by decide +kernel) w h).1
set_option maxRecDepth 20000 in
theorem in_wsX10 : ∀ w ∈ wsX10, w ∈ lw_tbl := fun w h => (goodIn_p wsX10 [] (by decide +kernel) (by decide +kernel) w h).1
set_option maxRecDepth 20000 in
theorem in_wsX20 : ∀ w ∈ wsX20, w ∈ lw_tbl := fun w h => (goodIn_p wsX20 [] (by decide +kernel) (by decide +kernel) w h).1
set_option maxRecDepth 20000 in
theorem in_wsX30 : ∀ w ∈ wsX30, w ∈ lw_tbl := fun w h => (goodIn_p wsX30 [] (by decide +kernel) (by decide +kernel) w h).1
theorem wsL_law_in : ∀ w ∈ wsL_law, w ∈ lw_tbl := by
  intro w h
  unfold wsL_law at h
  rcases List.mem_append.mp h with h | h
  rotate_left
  · exact absurd h List.not_mem_nil
  rcases List.mem_append.mp h with h | h
  rotate_left
  · exact in_wsX30 w h
  rcases List.mem_append.mp h with h | h
  rotate_left
  · exact in_wsX20 w h
  rcases List.mem_append.mp h with h | h
  rotate_left
  · exact in_wsX10 w h
  rcases List.mem_append.mp h with h | h
  rotate_left
  · exact in_wsX50 w h
  rcases List.mem_append.mp h with h | h
  rotate_left
  · exact in_wsX40 w h
  rcases List.mem_append.mp h with h | h
  rotate_left
  · exact in_wsX00 w h
  rcases List.mem_append.mp h with h | h
  rotate_left
  · exact in_wsX60 w h
  rcases List.mem_append.mp h with h | h
  rotate_left
  · exact in_wsX80 w h
  rcases List.mem_append.mp h with h | h
  rotate_left
  · exact in_wsX70 w h
  rcases List.mem_append.mp h with h | h
  · exact in_wsL_law_r1 w h
  rcases List.mem_append.mp h with h | h
  · exact in_wsL_law_r2 w h
  rcases List.mem_append.mp h with h | h
  · exact in_wsL_law_r3 w h
  rcases List.mem_append.mp h with h | h
  · exact in_wsL_law_r4 w h
  rcases List.mem_append.mp h with h | h
  · exact in_wsL_law_r5 w h
  rcases List.mem_append.mp h with h | h
  · exact in_wsL_law_r6 w h
  rcases List.mem_append.mp h with h | h
  · exact in_wsL_law_r7 w h
  rcases List.mem_append.mp h with h | h
  · exact in_wsL_law_r8 w h
  rcases List.mem_append.mp h with h | h
  · exact in_wsL_law_r9 w h
  rcases List.mem_append.mp h with h | h
  · exact in_wsL_law_r10 w h
  rcases List.mem_append.mp h with h | h
  · exact in_wsL_law_r11 w h
  rcases List.mem_append.mp h with h | h
  · exact in_wsL_law_r12 w h
  rcases List.mem_append.mp h with h | h
  · exact in_wsL_law_r13 w h
  rcases List.mem_append.mp h with h | h
  · exact in_wsL_law_r14 w h
  rcases List.mem_append.mp h with h | h
  · exact in_wsL_law_r15 w h
  rcases List.mem_append.mp h with h | h
  · exact in_wsL_law_r16 w h
  rcases List.mem_append.mp h with h | h
  · exact in_wsL_law_r17 w h
  rcases List.mem_append.mp h with h | h
  · exact in_wsL_law_r18 w h
  rcases List.mem_append.mp h with h | h
  · exact in_wsL_law_r19 w h
  rcases List.mem_append.mp h with h | h
  · exact in_wsL_law_r20 w h
  rcases List.mem_append.mp h with h | h
  · exact in_wsL_law_r21 w h
  rcases List.mem_append.mp h with h | h
  · exact in_wsL_law_r22 w h
  rcases List.mem_append.mp h with h | h
  · exact in_wsL_law_r23 w h
  rcases List.mem_append.mp h with h | h
  · exact in_wsL_law_r24 w h
  rcases List.mem_append.mp h with h | h
  · exact in_wsL_law_r25 w h
  rcases List.mem_append.mp h with h | h
  · exact in_wsL_law_r26 w h
  rcases List.mem_append.mp h with h | h
  · exact in_wsL_law_r27 w h
  rcases List.mem_append.mp h with h | h
  · exact in_wsL_law_r28 w h
  exact in_wsL_law_r29 w h
theorem inlX0 : ∀ w ∈ wsX00, w ∈ wsL_law := fun _ h => List.mem_append_left _ (List.mem_append_left _ (List.mem_append_left _ (List.mem_append_left _ (List.mem_append_left _ (List.mem_append_left _ (List.mem_append_right _ h))))))
theorem inX0 : ∀ w ∈ wsX00, w ∈ lw_tbl := fun w h => wsL_law_in w (inlX0 w h)
theorem inlX1 : ∀ w ∈ wsX10, w ∈ wsL_law := fun _ h => List.mem_append_left _ (List.mem_append_left _ (List.mem_append_left _ (List.mem_append_right _ h)))
theorem inX1 : ∀ w ∈ wsX10, w ∈ lw_tbl := fun w h => wsL_law_in w (inlX1 w h)
theorem inlX2 : ∀ w ∈ wsX20, w ∈ wsL_law := fun _ h => List.mem_append_left _ (List.mem_append_left _ (List.mem_append_right _ h))
theorem inX2 : ∀ w ∈ wsX20, w ∈ lw_tbl := fun w h => wsL_law_in w (inlX2 w h)
theorem inlX3 : ∀ w ∈ wsX30, w ∈ wsL_law := fun _ h => List.mem_append_left _ (List.mem_append_right _ h)
theorem inX3 : ∀ w ∈ wsX30, w ∈ lw_tbl := fun w h => wsL_law_in w (inlX3 w h)
theorem inlX4 : ∀ w ∈ wsX40, w ∈ wsL_law := fun _ h => List.mem_append_left _ (List.mem_append_left _ (List.mem_append_left _ (List.mem_append_left _ (List.mem_append_left _ (List.mem_append_right _ h)))))
theorem inX4 : ∀ w ∈ wsX40, w ∈ lw_tbl := fun w h => wsL_law_in w (inlX4 w h)
theorem inlX5 : ∀ w ∈ wsX50, w ∈ wsL_law := fun _ h => List.mem_append_left _ (List.mem_append_left _ (List.mem_append_left _ (List.mem_append_left _ (List.mem_append_right _ h))))
theorem inX5 : ∀ w ∈ wsX50, w ∈ lw_tbl := fun w h => wsL_law_in w (inlX5 w h)
theorem inlX6 : ∀ w ∈ wsX60, w ∈ wsL_law := fun _ h => List.mem_append_left _ (List.mem_append_left _ (List.mem_append_left _ (List.mem_append_left _ (List.mem_append_left _ (List.mem_append_left _ (List.mem_append_left _ (List.mem_append_right _ h)))))))
theorem inX6 : ∀ w ∈ wsX60, w ∈ lw_tbl := fun w h => wsL_law_in w (inlX6 w h)
theorem inlX7 : ∀ w ∈ wsX70, w ∈ wsL_law := fun _ h => List.mem_append_left _ (List.mem_append_left _ (List.mem_append_left _ (List.mem_append_left _ (List.mem_append_left _ (List.mem_append_left _ (List.mem_append_left _ (List.mem_append_left _ (List.mem_append_left _ (List.mem_append_right _ h)))))))))
theorem inX7 : ∀ w ∈ wsX70, w ∈ lw_tbl := fun w h => wsL_law_in w (inlX7 w h)
theorem inlX8 : ∀ w ∈ wsX80, w ∈ wsL_law := fun _ h => List.mem_append_left _ (List.mem_append_left _ (List.mem_append_left _ (List.mem_append_left _ (List.mem_append_left _ (List.mem_append_left _ (List.mem_append_left _ (List.mem_append_left _ (List.mem_append_right _ h))))))))
theorem inX8 : ∀ w ∈ wsX80, w ∈ lw_tbl := fun w h => wsL_law_in w (inlX8 w h)
theorem inJ6 : ∀ w ∈ wsJ60, w ∈ lw_tbl := by decide +kernel
theorem inJ9 : ∀ w ∈ wsJ90, w ∈ lw_tbl := by decide +kernel
theorem inJ10 : ∀ w ∈ wsJ100, w ∈ lw_tbl := by decide +kernel
theorem inJ7 : ∀ w ∈ wsJ70, w ∈ lw_tbl := by decide +kernel
end
section
theorem dX0_init_0 : decode cX0_init 0 = .ok (.aload_n 0, 1) := by decide +kernel
theorem dX0_init_1 : decode cX0_init 1 = .ok (.invokespecial 3, 3) := by decide +kernel
theorem dX0_init_4 : decode cX0_init 4 = .ok (.aload_n 0, 1) := by decide +kernel
theorem dX0_init_5 : decode cX0_init 5 = .ok (.bipush 24, 2) := by decide +kernel
theorem dX0_init_7 : decode cX0_init 7 = .ok (.newarray .int, 2) := by decide +kernel
theorem dX0_init_9 : decode cX0_init 9 = .ok (.putfield 9, 3) := by decide +kernel
theorem dX0_init_12 : decode cX0_init 12 = .ok (.aload_n 0, 1) := by decide +kernel
theorem dX0_init_13 : decode cX0_init 13 = .ok (.bipush 24, 2) := by decide +kernel
theorem dX0_init_15 : decode cX0_init 15 = .ok (.newarray .int, 2) := by decide +kernel
theorem dX0_init_17 : decode cX0_init 17 = .ok (.putfield 15, 3) := by decide +kernel
theorem dX0_init_20 : decode cX0_init 20 = .ok (.aload_n 0, 1) := by decide +kernel
theorem dX0_init_21 : decode cX0_init 21 = .ok (.bipush 24, 2) := by decide +kernel
theorem dX0_init_23 : decode cX0_init 23 = .ok (.newarray .int, 2) := by decide +kernel
theorem dX0_init_25 : decode cX0_init 25 = .ok (.putfield 18, 3) := by decide +kernel
theorem dX0_init_28 : decode cX0_init 28 = .ok (.aload_n 0, 1) := by decide +kernel
theorem dX0_init_29 : decode cX0_init 29 = .ok (.bipush 24, 2) := by decide +kernel
theorem dX0_init_31 : decode cX0_init 31 = .ok (.newarray .int, 2) := by decide +kernel
theorem dX0_init_33 : decode cX0_init 33 = .ok (.putfield 21, 3) := by decide +kernel
theorem dX0_init_36 : decode cX0_init 36 = .ok (.aload_n 0, 1) := by decide +kernel
theorem dX0_init_37 : decode cX0_init 37 = .ok (.bipush 24, 2) := by decide +kernel
theorem dX0_init_39 : decode cX0_init 39 = .ok (.newarray .int, 2) := by decide +kernel
theorem dX0_init_41 : decode cX0_init 41 = .ok (.putfield 24, 3) := by decide +kernel
theorem dX0_init_44 : decode cX0_init 44 = .ok (.aload_n 0, 1) := by decide +kernel
theorem dX0_init_45 : decode cX0_init 45 = .ok (.bipush 24, 2) := by decide +kernel
theorem dX0_init_47 : decode cX0_init 47 = .ok (.newarray .int, 2) := by decide +kernel
theorem dX0_init_49 : decode cX0_init 49 = .ok (.putfield 27, 3) := by decide +kernel
theorem dX0_init_52 : decode cX0_init 52 = .ok (.aload_n 0, 1) := by decide +kernel
theorem dX0_init_53 : decode cX0_init 53 = .ok (.bipush 24, 2) := by decide +kernel
theorem dX0_init_55 : decode cX0_init 55 = .ok (.newarray .int, 2) := by decide +kernel
theorem dX0_init_57 : decode cX0_init 57 = .ok (.putfield 30, 3) := by decide +kernel
theorem dX0_init_60 : decode cX0_init 60 = .ok (.aload_n 0, 1) := by decide +kernel
theorem dX0_init_61 : decode cX0_init 61 = .ok (.bipush 24, 2) := by decide +kernel
theorem dX0_init_63 : decode cX0_init 63 = .ok (.newarray .int, 2) := by decide +kernel
theorem dX0_init_65 : decode cX0_init 65 = .ok (.putfield 33, 3) := by decide +kernel
theorem dX0_init_68 : decode cX0_init 68 = .ok (.return_, 1) := by decide +kernel
theorem dX0_add_0 : decode cX0_add 0 = .ok (.aload_n 0, 1) := by decide +kernel
theorem dX0_add_1 : decode cX0_add 1 = .ok (.getfield 36, 3) := by decide +kernel
theorem dX0_add_4 : decode cX0_add 4 = .ok (.istore 5, 2) := by decide +kernel
theorem dX0_add_6 : decode cX0_add 6 = .ok (.aload_n 0, 1) := by decide +kernel
theorem dX0_add_7 : decode cX0_add 7 = .ok (.getfield 9, 3) := by decide +kernel
theorem dX0_add_10 : decode cX0_add 10 = .ok (.iload 5, 2) := by decide +kernel
theorem dX0_add_12 : decode cX0_add 12 = .ok (.iload_n 1, 1) := by decide +kernel
theorem dX0_add_13 : decode cX0_add 13 = .ok (.iastore, 1) := by decide +kernel
theorem dX0_add_14 : decode cX0_add 14 = .ok (.aload_n 0, 1) := by decide +kernel
theorem dX0_add_15 : decode cX0_add 15 = .ok (.getfield 15, 3) := by decide +kernel
theorem dX0_add_18 : decode cX0_add 18 = .ok (.iload 5, 2) := by decide +kernel
theorem dX0_add_20 : decode cX0_add 20 = .ok (.iload_n 2, 1) := by decide +kernel
theorem dX0_add_21 : decode cX0_add 21 = .ok (.iastore, 1) := by decide +kernel
theorem dX0_add_22 : decode cX0_add 22 = .ok (.aload_n 0, 1) := by decide +kernel
theorem dX0_add_23 : decode cX0_add 23 = .ok (.getfield 18, 3) := by decide +kernel
theorem dX0_add_26 : decode cX0_add 26 = .ok (.iload 5, 2) := by decide +kernel
theorem dX0_add_28 : decode cX0_add 28 = .ok (.iload_n 3, 1) := by decide +kernel
theorem dX0_add_29 : decode cX0_add 29 = .ok (.iastore, 1) := by decide +kernel
theorem dX0_add_30 : decode cX0_add 30 = .ok (.aload_n 0, 1) := by decide +kernel
theorem dX0_add_31 : decode cX0_add 31 = .ok (.getfield 21, 3) := by decide +kernel
theorem dX0_add_34 : decode cX0_add 34 = .ok (.iload 5, 2) := by decide +kernel
theorem dX0_add_36 : decode cX0_add 36 = .ok (.iload 4, 2) := by decide +kernel
theorem dX0_add_38 : decode cX0_add 38 = .ok (.iastore, 1) := by decide +kernel
theorem dX0_add_39 : decode cX0_add 39 = .ok (.aload_n 0, 1) := by decide +kernel
theorem dX0_add_40 : decode cX0_add 40 = .ok (.dup, 1) := by decide +kernel
theorem dX0_add_41 : decode cX0_add 41 = .ok (.getfield 36, 3) := by decide +kernel
theorem dX0_add_44 : decode cX0_add 44 = .ok (.iconst 1, 1) := by decide +kernel
theorem dX0_add_45 : decode cX0_add 45 = .ok (.iadd, 1) := by decide +kernel
theorem dX0_add_46 : decode cX0_add 46 = .ok (.putfield 36, 3) := by decide +kernel
theorem dX0_add_49 : decode cX0_add 49 = .ok (.iload 5, 2) := by decide +kernel
theorem dX0_add_51 : decode cX0_add 51 = .ok (.ireturn, 1) := by decide +kernel
theorem dX0_agree_0 : decode cX0_agree 0 = .ok (.aload_n 0, 1) := by decide +kernel
theorem dX0_agree_1 : decode cX0_agree 1 = .ok (.getfield 24, 3) := by decide +kernel
theorem dX0_agree_4 : decode cX0_agree 4 = .ok (.iload_n 1, 1) := by decide +kernel
theorem dX0_agree_5 : decode cX0_agree 5 = .ok (.iload_n 2, 1) := by decide +kernel
theorem dX0_agree_6 : decode cX0_agree 6 = .ok (.iastore, 1) := by decide +kernel
theorem dX0_agree_7 : decode cX0_agree 7 = .ok (.aload_n 0, 1) := by decide +kernel
theorem dX0_agree_8 : decode cX0_agree 8 = .ok (.getfield 27, 3) := by decide +kernel
theorem dX0_agree_11 : decode cX0_agree 11 = .ok (.iload_n 1, 1) := by decide +kernel
theorem dX0_agree_12 : decode cX0_agree 12 = .ok (.iload_n 3, 1) := by decide +kernel
theorem dX0_agree_13 : decode cX0_agree 13 = .ok (.iastore, 1) := by decide +kernel
theorem dX0_agree_14 : decode cX0_agree 14 = .ok (.aload_n 0, 1) := by decide +kernel
theorem dX0_agree_15 : decode cX0_agree 15 = .ok (.getfield 30, 3) := by decide +kernel
theorem dX0_agree_18 : decode cX0_agree 18 = .ok (.iload_n 1, 1) := by decide +kernel
theorem dX0_agree_19 : decode cX0_agree 19 = .ok (.iload 4, 2) := by decide +kernel
theorem dX0_agree_21 : decode cX0_agree 21 = .ok (.iastore, 1) := by decide +kernel
theorem dX0_agree_22 : decode cX0_agree 22 = .ok (.aload_n 0, 1) := by decide +kernel
theorem dX0_agree_23 : decode cX0_agree 23 = .ok (.getfield 33, 3) := by decide +kernel
theorem dX0_agree_26 : decode cX0_agree 26 = .ok (.iload_n 1, 1) := by decide +kernel
theorem dX0_agree_27 : decode cX0_agree 27 = .ok (.iload 5, 2) := by decide +kernel
theorem dX0_agree_29 : decode cX0_agree 29 = .ok (.iastore, 1) := by decide +kernel
theorem dX0_agree_30 : decode cX0_agree 30 = .ok (.return_, 1) := by decide +kernel
theorem dX0_holdsFor_0 : decode cX0_holdsFor 0 = .ok (.aload_n 0, 1) := by decide +kernel
theorem dX0_holdsFor_1 : decode cX0_holdsFor 1 = .ok (.getfield 15, 3) := by decide +kernel
theorem dX0_holdsFor_4 : decode cX0_holdsFor 4 = .ok (.iload_n 1, 1) := by decide +kernel
theorem dX0_holdsFor_5 : decode cX0_holdsFor 5 = .ok (.iaload, 1) := by decide +kernel
theorem dX0_holdsFor_6 : decode cX0_holdsFor 6 = .ok (.iload_n 2, 1) := by decide +kernel
theorem dX0_holdsFor_7 : decode cX0_holdsFor 7 = .ok (.if_icmp .ne 32, 3) := by decide +kernel
theorem dX0_holdsFor_10 : decode cX0_holdsFor 10 = .ok (.aload_n 0, 1) := by decide +kernel
theorem dX0_holdsFor_11 : decode cX0_holdsFor 11 = .ok (.getfield 18, 3) := by decide +kernel
theorem dX0_holdsFor_14 : decode cX0_holdsFor 14 = .ok (.iload_n 1, 1) := by decide +kernel
theorem dX0_holdsFor_15 : decode cX0_holdsFor 15 = .ok (.iaload, 1) := by decide +kernel
theorem dX0_holdsFor_16 : decode cX0_holdsFor 16 = .ok (.iload_n 3, 1) := by decide +kernel
theorem dX0_holdsFor_17 : decode cX0_holdsFor 17 = .ok (.ishr, 1) := by decide +kernel
theorem dX0_holdsFor_18 : decode cX0_holdsFor 18 = .ok (.iconst 1, 1) := by decide +kernel
theorem dX0_holdsFor_19 : decode cX0_holdsFor 19 = .ok (.iand, 1) := by decide +kernel
theorem dX0_holdsFor_20 : decode cX0_holdsFor 20 = .ok (.iconst 1, 1) := by decide +kernel
theorem dX0_holdsFor_21 : decode cX0_holdsFor 21 = .ok (.if_icmp .ne 18, 3) := by decide +kernel
theorem dX0_holdsFor_24 : decode cX0_holdsFor 24 = .ok (.aload_n 0, 1) := by decide +kernel
theorem dX0_holdsFor_25 : decode cX0_holdsFor 25 = .ok (.getfield 21, 3) := by decide +kernel
theorem dX0_holdsFor_28 : decode cX0_holdsFor 28 = .ok (.iload_n 1, 1) := by decide +kernel
theorem dX0_holdsFor_29 : decode cX0_holdsFor 29 = .ok (.iaload, 1) := by decide +kernel
theorem dX0_holdsFor_30 : decode cX0_holdsFor 30 = .ok (.iload 4, 2) := by decide +kernel
theorem dX0_holdsFor_32 : decode cX0_holdsFor 32 = .ok (.if_icmp .gt 7, 3) := by decide +kernel
theorem dX0_holdsFor_35 : decode cX0_holdsFor 35 = .ok (.iconst 1, 1) := by decide +kernel
theorem dX0_holdsFor_36 : decode cX0_holdsFor 36 = .ok (.goto 4, 3) := by decide +kernel
theorem dX0_holdsFor_39 : decode cX0_holdsFor 39 = .ok (.iconst 0, 1) := by decide +kernel
theorem dX0_holdsFor_40 : decode cX0_holdsFor 40 = .ok (.ireturn, 1) := by decide +kernel
theorem dX0_isReserveOf_0 : decode cX0_isReserveOf 0 = .ok (.aload_n 0, 1) := by decide +kernel
theorem dX0_isReserveOf_1 : decode cX0_isReserveOf 1 = .ok (.getfield 9, 3) := by decide +kernel
theorem dX0_isReserveOf_4 : decode cX0_isReserveOf 4 = .ok (.iload_n 1, 1) := by decide +kernel
theorem dX0_isReserveOf_5 : decode cX0_isReserveOf 5 = .ok (.iaload, 1) := by decide +kernel
theorem dX0_isReserveOf_6 : decode cX0_isReserveOf 6 = .ok (.iconst 4, 1) := by decide +kernel
theorem dX0_isReserveOf_7 : decode cX0_isReserveOf 7 = .ok (.if_icmp .ne 17, 3) := by decide +kernel
theorem dX0_isReserveOf_10 : decode cX0_isReserveOf 10 = .ok (.aload_n 0, 1) := by decide +kernel
theorem dX0_isReserveOf_11 : decode cX0_isReserveOf 11 = .ok (.getfield 15, 3) := by decide +kernel
theorem dX0_isReserveOf_14 : decode cX0_isReserveOf 14 = .ok (.iload_n 1, 1) := by decide +kernel
theorem dX0_isReserveOf_15 : decode cX0_isReserveOf 15 = .ok (.iaload, 1) := by decide +kernel
theorem dX0_isReserveOf_16 : decode cX0_isReserveOf 16 = .ok (.iload_n 2, 1) := by decide +kernel
theorem dX0_isReserveOf_17 : decode cX0_isReserveOf 17 = .ok (.if_icmp .ne 7, 3) := by decide +kernel
theorem dX0_isReserveOf_20 : decode cX0_isReserveOf 20 = .ok (.iconst 1, 1) := by decide +kernel
theorem dX0_isReserveOf_21 : decode cX0_isReserveOf 21 = .ok (.goto 4, 3) := by decide +kernel
theorem dX0_isReserveOf_24 : decode cX0_isReserveOf 24 = .ok (.iconst 0, 1) := by decide +kernel
theorem dX0_isReserveOf_25 : decode cX0_isReserveOf 25 = .ok (.ireturn, 1) := by decide +kernel
theorem dX1_init_0 : decode cX1_init 0 = .ok (.aload_n 0, 1) := by decide +kernel
theorem dX1_init_1 : decode cX1_init 1 = .ok (.invokespecial 1, 3) := by decide +kernel
theorem dX1_init_4 : decode cX1_init 4 = .ok (.aload_n 0, 1) := by decide +kernel
theorem dX1_init_5 : decode cX1_init 5 = .ok (.aload_n 1, 1) := by decide +kernel
theorem dX1_init_6 : decode cX1_init 6 = .ok (.putfield 7, 3) := by decide +kernel
theorem dX1_init_9 : decode cX1_init 9 = .ok (.aload_n 0, 1) := by decide +kernel
theorem dX1_init_10 : decode cX1_init 10 = .ok (.aload_n 2, 1) := by decide +kernel
theorem dX1_init_11 : decode cX1_init 11 = .ok (.putfield 13, 3) := by decide +kernel
theorem dX1_init_14 : decode cX1_init 14 = .ok (.aload_n 0, 1) := by decide +kernel
theorem dX1_init_15 : decode cX1_init 15 = .ok (.aload_n 3, 1) := by decide +kernel
theorem dX1_init_16 : decode cX1_init 16 = .ok (.putfield 17, 3) := by decide +kernel
theorem dX1_init_19 : decode cX1_init 19 = .ok (.aload_n 0, 1) := by decide +kernel
theorem dX1_init_20 : decode cX1_init 20 = .ok (.aload 4, 2) := by decide +kernel
theorem dX1_init_22 : decode cX1_init 22 = .ok (.putfield 21, 3) := by decide +kernel
theorem dX1_init_25 : decode cX1_init 25 = .ok (.return_, 1) := by decide +kernel
set_option maxRecDepth 20000 in
theorem ggX2_init_X3_init : GoodIn wsX2_init wsX3_init := goodIn_r _ [27, 28, 2, 3, 29, 30, 31, 32, 33, 8, 34, 35, 36, 4, 37, 38, 59, 60, 61, 62, 63, 64, 65] (by decide +kernel) (by decide +kernel)
set_option maxRecDepth 20000 in
theorem gX2_init_X3_init : GoodIn wsX2_init (wsX3_init) := ggX2_init_X3_init
theorem dX2_init_0 : decode cX2_init 0 = .ok (.aload_n 0, 1) := by decide +kernel
theorem dX2_init_1 : decode cX2_init 1 = .ok (.invokespecial 3, 3) := by decide +kernel
theorem dX2_init_4 : decode cX2_init 4 = .ok (.aload_n 0, 1) := by decide +kernel
theorem dX2_init_5 : decode cX2_init 5 = .ok (.bipush 12, 2) := by decide +kernel
theorem dX2_init_7 : decode cX2_init 7 = .ok (.newarray .long, 2) := by decide +kernel
theorem dX2_init_9 : decode cX2_init 9 = .ok (.putfield 9, 3) := by decide +kernel
theorem dX2_init_12 : decode cX2_init 12 = .ok (.aload_n 0, 1) := by decide +kernel
theorem dX2_init_13 : decode cX2_init 13 = .ok (.bipush 12, 2) := by decide +kernel
theorem dX2_init_15 : decode cX2_init 15 = .ok (.newarray .long, 2) := by decide +kernel
theorem dX2_init_17 : decode cX2_init 17 = .ok (.putfield 15, 3) := by decide +kernel
theorem dX2_init_20 : decode cX2_init 20 = .ok (.aload_n 0, 1) := by decide +kernel
theorem dX2_init_21 : decode cX2_init 21 = .ok (.bipush 12, 2) := by decide +kernel
theorem dX2_init_23 : decode cX2_init 23 = .ok (.newarray .long, 2) := by decide +kernel
theorem dX2_init_25 : decode cX2_init 25 = .ok (.putfield 18, 3) := by decide +kernel
theorem dX2_init_28 : decode cX2_init 28 = .ok (.aload_n 0, 1) := by decide +kernel
theorem dX2_init_29 : decode cX2_init 29 = .ok (.sipush 480, 3) := by decide +kernel
theorem dX2_init_32 : decode cX2_init 32 = .ok (.newarray .int, 2) := by decide +kernel
theorem dX2_init_34 : decode cX2_init 34 = .ok (.putfield 21, 3) := by decide +kernel
theorem dX2_init_37 : decode cX2_init 37 = .ok (.aload_n 0, 1) := by decide +kernel
theorem dX2_init_38 : decode cX2_init 38 = .ok (.bipush 24, 2) := by decide +kernel
theorem dX2_init_40 : decode cX2_init 40 = .ok (.newarray .long, 2) := by decide +kernel
theorem dX2_init_42 : decode cX2_init 42 = .ok (.putfield 25, 3) := by decide +kernel
theorem dX2_init_45 : decode cX2_init 45 = .ok (.aload_n 0, 1) := by decide +kernel
theorem dX2_init_46 : decode cX2_init 46 = .ok (.bipush 24, 2) := by decide +kernel
theorem dX2_init_48 : decode cX2_init 48 = .ok (.newarray .long, 2) := by decide +kernel
theorem dX2_init_50 : decode cX2_init 50 = .ok (.putfield 28, 3) := by decide +kernel
theorem dX2_init_53 : decode cX2_init 53 = .ok (.aload_n 0, 1) := by decide +kernel
theorem dX2_init_54 : decode cX2_init 54 = .ok (.sipush 960, 3) := by decide +kernel
theorem dX2_init_57 : decode cX2_init 57 = .ok (.newarray .long, 2) := by decide +kernel
theorem dX2_init_59 : decode cX2_init 59 = .ok (.putfield 31, 3) := by decide +kernel
theorem dX2_init_62 : decode cX2_init 62 = .ok (.aload_n 0, 1) := by decide +kernel
theorem dX2_init_63 : decode cX2_init 63 = .ok (.aload_n 1, 1) := by decide +kernel
theorem dX2_init_64 : decode cX2_init 64 = .ok (.getfield 34, 3) := by decide +kernel
theorem dX2_init_67 : decode cX2_init 67 = .ok (.putfield 40, 3) := by decide +kernel
theorem dX2_init_70 : decode cX2_init 70 = .ok (.aload_n 0, 1) := by decide +kernel
theorem dX2_init_71 : decode cX2_init 71 = .ok (.aload_n 1, 1) := by decide +kernel
theorem dX2_init_72 : decode cX2_init 72 = .ok (.getfield 41, 3) := by decide +kernel
theorem dX2_init_75 : decode cX2_init 75 = .ok (.putfield 45, 3) := by decide +kernel
theorem dX2_init_78 : decode cX2_init 78 = .ok (.aload_n 0, 1) := by decide +kernel
theorem dX2_init_79 : decode cX2_init 79 = .ok (.aload_n 1, 1) := by decide +kernel
theorem dX2_init_80 : decode cX2_init 80 = .ok (.getfield 46, 3) := by decide +kernel
theorem dX2_init_83 : decode cX2_init 83 = .ok (.putfield 50, 3) := by decide +kernel
theorem dX2_init_86 : decode cX2_init 86 = .ok (.aload_n 0, 1) := by decide +kernel
theorem dX2_init_87 : decode cX2_init 87 = .ok (.aload_n 1, 1) := by decide +kernel
theorem dX2_init_88 : decode cX2_init 88 = .ok (.getfield 51, 3) := by decide +kernel
theorem dX2_init_91 : decode cX2_init 91 = .ok (.putfield 55, 3) := by decide +kernel
theorem dX2_init_94 : decode cX2_init 94 = .ok (.aload_n 0, 1) := by decide +kernel
theorem dX2_init_95 : decode cX2_init 95 = .ok (.new 56, 3) := by decide +kernel
theorem dX2_init_98 : decode cX2_init 98 = .ok (.dup, 1) := by decide +kernel
theorem dX2_init_99 : decode cX2_init 99 = .ok (.iload_n 2, 1) := by decide +kernel
theorem dX2_init_100 : decode cX2_init 100 = .ok (.invokespecial 58, 3) := by decide +kernel
theorem dX2_init_103 : decode cX2_init 103 = .ok (.putfield 61, 3) := by decide +kernel
theorem dX2_init_106 : decode cX2_init 106 = .ok (.return_, 1) := by decide +kernel
set_option maxRecDepth 20000 in
theorem ggX2_clear_J7_fill_d0a16 : GoodIn wsX2_clear wsJ7_fill_d0a16 := goodIn_r _ [14] (by decide +kernel) (by decide +kernel)
set_option maxRecDepth 20000 in
theorem gX2_clear_J7_fill_d0a16 : GoodIn wsX2_clear (va_wsS RX2 65 yJ7_fill_d0a16 wsJ7_fill_d0a16) := goodIn_app (goodIn_of _ (by decide +kernel)) ggX2_clear_J7_fill_d0a16
set_option maxRecDepth 20000 in
theorem ggX2_clear_J7_fill_53178 : GoodIn wsX2_clear wsJ7_fill_53178 := goodIn_r _ [17] (by decide +kernel) (by decide +kernel)
set_option maxRecDepth 20000 in
theorem gX2_clear_J7_fill_53178 : GoodIn wsX2_clear (va_wsS RX2 71 yJ7_fill_53178 wsJ7_fill_53178) := goodIn_app (goodIn_of _ (by decide +kernel)) ggX2_clear_J7_fill_53178
theorem dX2_clear_0 : decode cX2_clear 0 = .ok (.aload_n 0, 1) := by decide +kernel
theorem dX2_clear_1 : decode cX2_clear 1 = .ok (.getfield 9, 3) := by decide +kernel
theorem dX2_clear_4 : decode cX2_clear 4 = .ok (.lconst 0, 1) := by decide +kernel
theorem dX2_clear_5 : decode cX2_clear 5 = .ok (.invokestatic 65, 3) := by decide +kernel
theorem dX2_clear_8 : decode cX2_clear 8 = .ok (.aload_n 0, 1) := by decide +kernel
theorem dX2_clear_9 : decode cX2_clear 9 = .ok (.getfield 15, 3) := by decide +kernel
theorem dX2_clear_12 : decode cX2_clear 12 = .ok (.lconst 0, 1) := by decide +kernel
theorem dX2_clear_13 : decode cX2_clear 13 = .ok (.invokestatic 65, 3) := by decide +kernel
theorem dX2_clear_16 : decode cX2_clear 16 = .ok (.aload_n 0, 1) := by decide +kernel
theorem dX2_clear_17 : decode cX2_clear 17 = .ok (.getfield 18, 3) := by decide +kernel
theorem dX2_clear_20 : decode cX2_clear 20 = .ok (.lconst 0, 1) := by decide +kernel
theorem dX2_clear_21 : decode cX2_clear 21 = .ok (.invokestatic 65, 3) := by decide +kernel
theorem dX2_clear_24 : decode cX2_clear 24 = .ok (.aload_n 0, 1) := by decide +kernel
theorem dX2_clear_25 : decode cX2_clear 25 = .ok (.getfield 21, 3) := by decide +kernel
theorem dX2_clear_28 : decode cX2_clear 28 = .ok (.iconst 0, 1) := by decide +kernel
theorem dX2_clear_29 : decode cX2_clear 29 = .ok (.invokestatic 71, 3) := by decide +kernel
theorem dX2_clear_32 : decode cX2_clear 32 = .ok (.aload_n 0, 1) := by decide +kernel
theorem dX2_clear_33 : decode cX2_clear 33 = .ok (.getfield 25, 3) := by decide +kernel
theorem dX2_clear_36 : decode cX2_clear 36 = .ok (.lconst 0, 1) := by decide +kernel
theorem dX2_clear_37 : decode cX2_clear 37 = .ok (.invokestatic 65, 3) := by decide +kernel
theorem dX2_clear_40 : decode cX2_clear 40 = .ok (.aload_n 0, 1) := by decide +kernel
theorem dX2_clear_41 : decode cX2_clear 41 = .ok (.getfield 28, 3) := by decide +kernel
theorem dX2_clear_44 : decode cX2_clear 44 = .ok (.lconst 0, 1) := by decide +kernel
theorem dX2_clear_45 : decode cX2_clear 45 = .ok (.invokestatic 65, 3) := by decide +kernel
theorem dX2_clear_48 : decode cX2_clear 48 = .ok (.aload_n 0, 1) := by decide +kernel
theorem dX2_clear_49 : decode cX2_clear 49 = .ok (.getfield 31, 3) := by decide +kernel
theorem dX2_clear_52 : decode cX2_clear 52 = .ok (.lconst 0, 1) := by decide +kernel
theorem dX2_clear_53 : decode cX2_clear 53 = .ok (.invokestatic 65, 3) := by decide +kernel
theorem dX2_clear_56 : decode cX2_clear 56 = .ok (.aload_n 0, 1) := by decide +kernel
theorem dX2_clear_57 : decode cX2_clear 57 = .ok (.lconst 0, 1) := by decide +kernel
theorem dX2_clear_58 : decode cX2_clear 58 = .ok (.putfield 74, 3) := by decide +kernel
theorem dX2_clear_61 : decode cX2_clear 61 = .ok (.aload_n 0, 1) := by decide +kernel
theorem dX2_clear_62 : decode cX2_clear 62 = .ok (.iconst 0, 1) := by decide +kernel
theorem dX2_clear_63 : decode cX2_clear 63 = .ok (.putfield 78, 3) := by decide +kernel
theorem dX2_clear_66 : decode cX2_clear 66 = .ok (.aload_n 0, 1) := by decide +kernel
theorem dX2_clear_67 : decode cX2_clear 67 = .ok (.iconst 0, 1) := by decide +kernel
theorem dX2_clear_68 : decode cX2_clear 68 = .ok (.putfield 82, 3) := by decide +kernel
theorem dX2_clear_71 : decode cX2_clear 71 = .ok (.return_, 1) := by decide +kernel
set_option maxRecDepth 20000 in
theorem ggX2_reckonTo_X2_takeSentOf : GoodIn wsX2_reckonTo wsX2_takeSentOf := goodIn_r _ [10, 11, 12, 13, 14, 15, 16, 17, 18, 19, 20, 9, 21, 5, 22, 23, 24, 25, 26, 3, 27, 28, 29, 30, 31, 32, 33, 34, 35, 36, 154, 155, 156, 157, 158, 159, 160, 161, 162, 163, 164, 165, 166, 167, 168, 169, 170, 171, 172, 173, 174, 175, 176, 177, 178, 179, 180, 181, 182, 183] (by decide +kernel) (by decide +kernel)
set_option maxRecDepth 20000 in
theorem gX2_reckonTo_X2_takeSentOf : GoodIn wsX2_reckonTo (wsV RX2 91 RX2 yX2_takeSentOf wsX2_takeSentOf) := goodIn_app (goodIn_of _ (by decide +kernel)) ggX2_reckonTo_X2_takeSentOf
set_option maxRecDepth 20000 in
theorem ggX2_reckonTo_X2_closeTerm : GoodIn wsX2_reckonTo wsX2_closeTerm := goodIn_r _ [40, 41, 42, 43, 5, 44, 45, 46, 47, 48, 49, 50, 51, 52, 53, 54, 55, 56, 57, 58, 59, 60, 61, 62, 9, 63, 64, 65, 17, 66, 67, 68, 69, 70, 71, 72, 73, 74, 75, 76, 77, 78, 79, 80, 81, 82, 83, 84, 85, 86, 87, 88, 89, 90, 91, 92, 93, 22, 23, 94, 95, 96, 24, 97, 98, 99, 100, 101, 102, 103, 104, 105, 106, 107, 108, 109, 110, 111, 112, 113, 114, 115, 33, 116, 36, 117, 118, 119, 120, 121, 122, 123, 25, 26, 3, 27, 124, 125, 126, 127, 128, 129, 130, 131, 132, 133, 134, 135, 136, 137, 138, 139, 140, 141, 142, 28, 143, 144, 145, 146, 147, 148, 149, 150, 151, 152, 153, 154, 155, 156, 157, 158, 159, 160, 161, 162, 163, 164, 165, 166, 167, 168, 169, 184, 185, 186, 187, 188, 189, 190, 191, 192, 193, 194, 195, 196, 197, 198, 199, 200, 175, 176, 177, 178, 179, 180, 181, 182, 183] (by decide +kernel) (by decide +kernel)
set_option maxRecDepth 20000 in
theorem gX2_reckonTo_X2_closeTerm : GoodIn wsX2_reckonTo (wsV RX2 94 RX2 yX2_closeTerm wsX2_closeTerm) := goodIn_app (goodIn_of _ (by decide +kernel)) ggX2_reckonTo_X2_closeTerm
theorem dX2_reckonTo_0 : decode cX2_reckonTo 0 = .ok (.iload_n 1, 1) := by decide +kernel
theorem dX2_reckonTo_1 : decode cX2_reckonTo 1 = .ok (.bipush 40, 2) := by decide +kernel
theorem dX2_reckonTo_3 : decode cX2_reckonTo 3 = .ok (.invokestatic 85, 3) := by decide +kernel
theorem dX2_reckonTo_6 : decode cX2_reckonTo 6 = .ok (.istore_n 2, 1) := by decide +kernel
theorem dX2_reckonTo_7 : decode cX2_reckonTo 7 = .ok (.aload_n 0, 1) := by decide +kernel
theorem dX2_reckonTo_8 : decode cX2_reckonTo 8 = .ok (.getfield 78, 3) := by decide +kernel
theorem dX2_reckonTo_11 : decode cX2_reckonTo 11 = .ok (.istore_n 3, 1) := by decide +kernel
theorem dX2_reckonTo_12 : decode cX2_reckonTo 12 = .ok (.iload_n 3, 1) := by decide +kernel
theorem dX2_reckonTo_13 : decode cX2_reckonTo 13 = .ok (.iload_n 2, 1) := by decide +kernel
theorem dX2_reckonTo_14 : decode cX2_reckonTo 14 = .ok (.if_icmp .ge 18, 3) := by decide +kernel
theorem dX2_reckonTo_17 : decode cX2_reckonTo 17 = .ok (.aload_n 0, 1) := by decide +kernel
theorem dX2_reckonTo_18 : decode cX2_reckonTo 18 = .ok (.iload_n 3, 1) := by decide +kernel
theorem dX2_reckonTo_19 : decode cX2_reckonTo 19 = .ok (.invokevirtual 91, 3) := by decide +kernel
theorem dX2_reckonTo_22 : decode cX2_reckonTo 22 = .ok (.aload_n 0, 1) := by decide +kernel
theorem dX2_reckonTo_23 : decode cX2_reckonTo 23 = .ok (.invokevirtual 94, 3) := by decide +kernel
theorem dX2_reckonTo_26 : decode cX2_reckonTo 26 = .ok (.iinc 3 1, 3) := by decide +kernel
theorem dX2_reckonTo_29 : decode cX2_reckonTo 29 = .ok (.goto (-17), 3) := by decide +kernel
theorem dX2_reckonTo_32 : decode cX2_reckonTo 32 = .ok (.aload_n 0, 1) := by decide +kernel
theorem dX2_reckonTo_33 : decode cX2_reckonTo 33 = .ok (.iload_n 1, 1) := by decide +kernel
theorem dX2_reckonTo_34 : decode cX2_reckonTo 34 = .ok (.invokevirtual 91, 3) := by decide +kernel
theorem dX2_reckonTo_37 : decode cX2_reckonTo 37 = .ok (.return_, 1) := by decide +kernel
set_option maxRecDepth 20000 in
theorem ggX2_becomeLike_X2_worth : GoodIn wsX2_becomeLike wsX2_worth := goodIn_r _ [16, 17, 1, 2, 18, 19, 20, 15, 21, 22, 23, 24, 25, 26, 27, 28, 29, 30, 31, 32, 33, 34, 35, 36, 37, 38, 39, 40, 41, 42, 43] (by decide +kernel) (by decide +kernel)
set_option maxRecDepth 20000 in
theorem gX2_becomeLike_X2_worth : GoodIn wsX2_becomeLike (wsV RX2 97 RX2 yX2_worth wsX2_worth) := goodIn_app (goodIn_of _ (by decide +kernel)) ggX2_becomeLike_X2_worth
theorem dX2_becomeLike_0 : decode cX2_becomeLike 0 = .ok (.iconst 0, 1) := by decide +kernel
theorem dX2_becomeLike_1 : decode cX2_becomeLike 1 = .ok (.istore_n 2, 1) := by decide +kernel
theorem dX2_becomeLike_2 : decode cX2_becomeLike 2 = .ok (.iload_n 2, 1) := by decide +kernel
theorem dX2_becomeLike_3 : decode cX2_becomeLike 3 = .ok (.bipush 12, 2) := by decide +kernel
theorem dX2_becomeLike_5 : decode cX2_becomeLike 5 = .ok (.if_icmp .ge 69, 3) := by decide +kernel
theorem dX2_becomeLike_8 : decode cX2_becomeLike 8 = .ok (.aload_n 1, 1) := by decide +kernel
theorem dX2_becomeLike_9 : decode cX2_becomeLike 9 = .ok (.iload_n 2, 1) := by decide +kernel
theorem dX2_becomeLike_10 : decode cX2_becomeLike 10 = .ok (.invokevirtual 97, 3) := by decide +kernel
theorem dX2_becomeLike_13 : decode cX2_becomeLike 13 = .ok (.aload_n 0, 1) := by decide +kernel
theorem dX2_becomeLike_14 : decode cX2_becomeLike 14 = .ok (.iload_n 2, 1) := by decide +kernel
theorem dX2_becomeLike_15 : decode cX2_becomeLike 15 = .ok (.invokevirtual 97, 3) := by decide +kernel
theorem dX2_becomeLike_18 : decode cX2_becomeLike 18 = .ok (.lsub, 1) := by decide +kernel
theorem dX2_becomeLike_19 : decode cX2_becomeLike 19 = .ok (.lstore_n 3, 1) := by decide +kernel
theorem dX2_becomeLike_20 : decode cX2_becomeLike 20 = .ok (.aload_n 0, 1) := by decide +kernel
theorem dX2_becomeLike_21 : decode cX2_becomeLike 21 = .ok (.getfield 9, 3) := by decide +kernel
theorem dX2_becomeLike_24 : decode cX2_becomeLike 24 = .ok (.iload_n 2, 1) := by decide +kernel
theorem dX2_becomeLike_25 : decode cX2_becomeLike 25 = .ok (.dup2, 1) := by decide +kernel
theorem dX2_becomeLike_26 : decode cX2_becomeLike 26 = .ok (.laload, 1) := by decide +kernel
theorem dX2_becomeLike_27 : decode cX2_becomeLike 27 = .ok (.lload_n 3, 1) := by decide +kernel
theorem dX2_becomeLike_28 : decode cX2_becomeLike 28 = .ok (.aload_n 1, 1) := by decide +kernel
theorem dX2_becomeLike_29 : decode cX2_becomeLike 29 = .ok (.getfield 15, 3) := by decide +kernel
theorem dX2_becomeLike_32 : decode cX2_becomeLike 32 = .ok (.iload_n 2, 1) := by decide +kernel
theorem dX2_becomeLike_33 : decode cX2_becomeLike 33 = .ok (.laload, 1) := by decide +kernel
theorem dX2_becomeLike_34 : decode cX2_becomeLike 34 = .ok (.ladd, 1) := by decide +kernel
theorem dX2_becomeLike_35 : decode cX2_becomeLike 35 = .ok (.aload_n 0, 1) := by decide +kernel
theorem dX2_becomeLike_36 : decode cX2_becomeLike 36 = .ok (.getfield 15, 3) := by decide +kernel
theorem dX2_becomeLike_39 : decode cX2_becomeLike 39 = .ok (.iload_n 2, 1) := by decide +kernel
theorem dX2_becomeLike_40 : decode cX2_becomeLike 40 = .ok (.laload, 1) := by decide +kernel
theorem dX2_becomeLike_41 : decode cX2_becomeLike 41 = .ok (.lsub, 1) := by decide +kernel
theorem dX2_becomeLike_42 : decode cX2_becomeLike 42 = .ok (.ladd, 1) := by decide +kernel
theorem dX2_becomeLike_43 : decode cX2_becomeLike 43 = .ok (.lastore, 1) := by decide +kernel
theorem dX2_becomeLike_44 : decode cX2_becomeLike 44 = .ok (.aload_n 0, 1) := by decide +kernel
theorem dX2_becomeLike_45 : decode cX2_becomeLike 45 = .ok (.getfield 15, 3) := by decide +kernel
theorem dX2_becomeLike_48 : decode cX2_becomeLike 48 = .ok (.iload_n 2, 1) := by decide +kernel
theorem dX2_becomeLike_49 : decode cX2_becomeLike 49 = .ok (.aload_n 1, 1) := by decide +kernel
theorem dX2_becomeLike_50 : decode cX2_becomeLike 50 = .ok (.getfield 15, 3) := by decide +kernel
theorem dX2_becomeLike_53 : decode cX2_becomeLike 53 = .ok (.iload_n 2, 1) := by decide +kernel
theorem dX2_becomeLike_54 : decode cX2_becomeLike 54 = .ok (.laload, 1) := by decide +kernel
theorem dX2_becomeLike_55 : decode cX2_becomeLike 55 = .ok (.lastore, 1) := by decide +kernel
theorem dX2_becomeLike_56 : decode cX2_becomeLike 56 = .ok (.aload_n 0, 1) := by decide +kernel
theorem dX2_becomeLike_57 : decode cX2_becomeLike 57 = .ok (.getfield 18, 3) := by decide +kernel
theorem dX2_becomeLike_60 : decode cX2_becomeLike 60 = .ok (.iload_n 2, 1) := by decide +kernel
theorem dX2_becomeLike_61 : decode cX2_becomeLike 61 = .ok (.aload_n 1, 1) := by decide +kernel
theorem dX2_becomeLike_62 : decode cX2_becomeLike 62 = .ok (.getfield 18, 3) := by decide +kernel
theorem dX2_becomeLike_65 : decode cX2_becomeLike 65 = .ok (.iload_n 2, 1) := by decide +kernel
theorem dX2_becomeLike_66 : decode cX2_becomeLike 66 = .ok (.laload, 1) := by decide +kernel
theorem dX2_becomeLike_67 : decode cX2_becomeLike 67 = .ok (.lastore, 1) := by decide +kernel
theorem dX2_becomeLike_68 : decode cX2_becomeLike 68 = .ok (.iinc 2 1, 3) := by decide +kernel
theorem dX2_becomeLike_71 : decode cX2_becomeLike 71 = .ok (.goto (-69), 3) := by decide +kernel
theorem dX2_becomeLike_74 : decode cX2_becomeLike 74 = .ok (.aload_n 1, 1) := by decide +kernel
theorem dX2_becomeLike_75 : decode cX2_becomeLike 75 = .ok (.getfield 25, 3) := by decide +kernel
theorem dX2_becomeLike_78 : decode cX2_becomeLike 78 = .ok (.iconst 0, 1) := by decide +kernel
theorem dX2_becomeLike_79 : decode cX2_becomeLike 79 = .ok (.aload_n 0, 1) := by decide +kernel
theorem dX2_becomeLike_80 : decode cX2_becomeLike 80 = .ok (.getfield 25, 3) := by decide +kernel
theorem dX2_becomeLike_83 : decode cX2_becomeLike 83 = .ok (.iconst 0, 1) := by decide +kernel
theorem dX2_becomeLike_84 : decode cX2_becomeLike 84 = .ok (.bipush 24, 2) := by decide +kernel
theorem dX2_becomeLike_86 : decode cX2_becomeLike 86 = .ok (.invokestatic 101, 3) := by decide +kernel
theorem dX2_becomeLike_89 : decode cX2_becomeLike 89 = .ok (.aload_n 1, 1) := by decide +kernel
theorem dX2_becomeLike_90 : decode cX2_becomeLike 90 = .ok (.getfield 28, 3) := by decide +kernel
theorem dX2_becomeLike_93 : decode cX2_becomeLike 93 = .ok (.iconst 0, 1) := by decide +kernel
theorem dX2_becomeLike_94 : decode cX2_becomeLike 94 = .ok (.aload_n 0, 1) := by decide +kernel
theorem dX2_becomeLike_95 : decode cX2_becomeLike 95 = .ok (.getfield 28, 3) := by decide +kernel
theorem dX2_becomeLike_98 : decode cX2_becomeLike 98 = .ok (.iconst 0, 1) := by decide +kernel
theorem dX2_becomeLike_99 : decode cX2_becomeLike 99 = .ok (.bipush 24, 2) := by decide +kernel
theorem dX2_becomeLike_101 : decode cX2_becomeLike 101 = .ok (.invokestatic 101, 3) := by decide +kernel
theorem dX2_becomeLike_104 : decode cX2_becomeLike 104 = .ok (.aload_n 1, 1) := by decide +kernel
theorem dX2_becomeLike_105 : decode cX2_becomeLike 105 = .ok (.getfield 31, 3) := by decide +kernel
theorem dX2_becomeLike_108 : decode cX2_becomeLike 108 = .ok (.iconst 0, 1) := by decide +kernel
theorem dX2_becomeLike_109 : decode cX2_becomeLike 109 = .ok (.aload_n 0, 1) := by decide +kernel
theorem dX2_becomeLike_110 : decode cX2_becomeLike 110 = .ok (.getfield 31, 3) := by decide +kernel
theorem dX2_becomeLike_113 : decode cX2_becomeLike 113 = .ok (.iconst 0, 1) := by decide +kernel
theorem dX2_becomeLike_114 : decode cX2_becomeLike 114 = .ok (.sipush 960, 3) := by decide +kernel
theorem dX2_becomeLike_117 : decode cX2_becomeLike 117 = .ok (.invokestatic 101, 3) := by decide +kernel
theorem dX2_becomeLike_120 : decode cX2_becomeLike 120 = .ok (.aload_n 0, 1) := by decide +kernel
theorem dX2_becomeLike_121 : decode cX2_becomeLike 121 = .ok (.aload_n 1, 1) := by decide +kernel
theorem dX2_becomeLike_122 : decode cX2_becomeLike 122 = .ok (.getfield 74, 3) := by decide +kernel
theorem dX2_becomeLike_125 : decode cX2_becomeLike 125 = .ok (.putfield 74, 3) := by decide +kernel
theorem dX2_becomeLike_128 : decode cX2_becomeLike 128 = .ok (.return_, 1) := by decide +kernel
set_option maxRecDepth 20000 in
theorem ggX2_worth_X2_allDues : GoodIn wsX2_worth wsX2_allDues := goodIn_r _ [8, 9, 10, 11, 12, 7, 13, 14, 15, 16, 17, 18, 19, 20, 21, 22, 23, 24, 25, 26, 27, 28, 29, 30] (by decide +kernel) (by decide +kernel)
set_option maxRecDepth 20000 in
theorem gX2_worth_X2_allDues : GoodIn wsX2_worth (wsV RX2 107 RX2 yX2_allDues wsX2_allDues) := goodIn_app (goodIn_of _ (by decide +kernel)) ggX2_worth_X2_allDues
theorem dX2_worth_0 : decode cX2_worth 0 = .ok (.aload_n 0, 1) := by decide +kernel
theorem dX2_worth_1 : decode cX2_worth 1 = .ok (.iload_n 1, 1) := by decide +kernel
theorem dX2_worth_2 : decode cX2_worth 2 = .ok (.invokevirtual 107, 3) := by decide +kernel
theorem dX2_worth_5 : decode cX2_worth 5 = .ok (.ldc2_w 110, 3) := by decide +kernel
theorem dX2_worth_8 : decode cX2_worth 8 = .ok (.lmul, 1) := by decide +kernel
theorem dX2_worth_9 : decode cX2_worth 9 = .ok (.aload_n 0, 1) := by decide +kernel
theorem dX2_worth_10 : decode cX2_worth 10 = .ok (.getfield 9, 3) := by decide +kernel
theorem dX2_worth_13 : decode cX2_worth 13 = .ok (.iload_n 1, 1) := by decide +kernel
theorem dX2_worth_14 : decode cX2_worth 14 = .ok (.laload, 1) := by decide +kernel
theorem dX2_worth_15 : decode cX2_worth 15 = .ok (.ladd, 1) := by decide +kernel
theorem dX2_worth_16 : decode cX2_worth 16 = .ok (.aload_n 0, 1) := by decide +kernel
theorem dX2_worth_17 : decode cX2_worth 17 = .ok (.getfield 15, 3) := by decide +kernel
theorem dX2_worth_20 : decode cX2_worth 20 = .ok (.iload_n 1, 1) := by decide +kernel
theorem dX2_worth_21 : decode cX2_worth 21 = .ok (.laload, 1) := by decide +kernel
theorem dX2_worth_22 : decode cX2_worth 22 = .ok (.lsub, 1) := by decide +kernel
theorem dX2_worth_23 : decode cX2_worth 23 = .ok (.lreturn, 1) := by decide +kernel
set_option maxRecDepth 20000 in
theorem ggX2_allDues_X2_duesOf : GoodIn wsX2_allDues wsX2_duesOf := goodIn_r _ [6, 7, 8, 9, 10, 11, 12, 13, 14, 15, 16, 17, 18, 19, 20, 21, 22, 23] (by decide +kernel) (by decide +kernel)
set_option maxRecDepth 20000 in
theorem gX2_allDues_X2_duesOf : GoodIn wsX2_allDues (wsV RX2 112 RX2 yX2_duesOf wsX2_duesOf) := goodIn_app (goodIn_of _ (by decide +kernel)) ggX2_allDues_X2_duesOf
theorem dX2_allDues_0 : decode cX2_allDues 0 = .ok (.aload_n 0, 1) := by decide +kernel
theorem dX2_allDues_1 : decode cX2_allDues 1 = .ok (.iload_n 1, 1) := by decide +kernel
theorem dX2_allDues_2 : decode cX2_allDues 2 = .ok (.iconst 0, 1) := by decide +kernel
theorem dX2_allDues_3 : decode cX2_allDues 3 = .ok (.aload_n 0, 1) := by decide +kernel
theorem dX2_allDues_4 : decode cX2_allDues 4 = .ok (.getfield 78, 3) := by decide +kernel
theorem dX2_allDues_7 : decode cX2_allDues 7 = .ok (.invokevirtual 112, 3) := by decide +kernel
theorem dX2_allDues_10 : decode cX2_allDues 10 = .ok (.lreturn, 1) := by decide +kernel
theorem dX2_allFilled_0 : decode cX2_allFilled 0 = .ok (.lconst 0, 1) := by decide +kernel
theorem dX2_allFilled_1 : decode cX2_allFilled 1 = .ok (.lstore_n 1, 1) := by decide +kernel
theorem dX2_allFilled_2 : decode cX2_allFilled 2 = .ok (.iconst 0, 1) := by decide +kernel
theorem dX2_allFilled_3 : decode cX2_allFilled 3 = .ok (.istore_n 3, 1) := by decide +kernel
theorem dX2_allFilled_4 : decode cX2_allFilled 4 = .ok (.iload_n 3, 1) := by decide +kernel
theorem dX2_allFilled_5 : decode cX2_allFilled 5 = .ok (.bipush 12, 2) := by decide +kernel
theorem dX2_allFilled_7 : decode cX2_allFilled 7 = .ok (.if_icmp .ge 18, 3) := by decide +kernel
theorem dX2_allFilled_10 : decode cX2_allFilled 10 = .ok (.lload_n 1, 1) := by decide +kernel
theorem dX2_allFilled_11 : decode cX2_allFilled 11 = .ok (.aload_n 0, 1) := by decide +kernel
theorem dX2_allFilled_12 : decode cX2_allFilled 12 = .ok (.getfield 18, 3) := by decide +kernel
theorem dX2_allFilled_15 : decode cX2_allFilled 15 = .ok (.iload_n 3, 1) := by decide +kernel
theorem dX2_allFilled_16 : decode cX2_allFilled 16 = .ok (.laload, 1) := by decide +kernel
theorem dX2_allFilled_17 : decode cX2_allFilled 17 = .ok (.ladd, 1) := by decide +kernel
theorem dX2_allFilled_18 : decode cX2_allFilled 18 = .ok (.lstore_n 1, 1) := by decide +kernel
theorem dX2_allFilled_19 : decode cX2_allFilled 19 = .ok (.iinc 3 1, 3) := by decide +kernel
theorem dX2_allFilled_22 : decode cX2_allFilled 22 = .ok (.goto (-18), 3) := by decide +kernel
theorem dX2_allFilled_25 : decode cX2_allFilled 25 = .ok (.lload_n 1, 1) := by decide +kernel
theorem dX2_allFilled_26 : decode cX2_allFilled 26 = .ok (.lreturn, 1) := by decide +kernel
theorem dX2_stillIn_0 : decode cX2_stillIn 0 = .ok (.aload_n 0, 1) := by decide +kernel
theorem dX2_stillIn_1 : decode cX2_stillIn 1 = .ok (.getfield 45, 3) := by decide +kernel
theorem dX2_stillIn_4 : decode cX2_stillIn 4 = .ok (.getfield 116, 3) := by decide +kernel
theorem dX2_stillIn_7 : decode cX2_stillIn 7 = .ok (.iload_n 1, 1) := by decide +kernel
theorem dX2_stillIn_8 : decode cX2_stillIn 8 = .ok (.iaload, 1) := by decide +kernel
theorem dX2_stillIn_9 : decode cX2_stillIn 9 = .ok (.iconst 1, 1) := by decide +kernel
theorem dX2_stillIn_10 : decode cX2_stillIn 10 = .ok (.if_icmp .ne 25, 3) := by decide +kernel
theorem dX2_stillIn_13 : decode cX2_stillIn 13 = .ok (.aload_n 0, 1) := by decide +kernel
theorem dX2_stillIn_14 : decode cX2_stillIn 14 = .ok (.getfield 45, 3) := by decide +kernel
theorem dX2_stillIn_17 : decode cX2_stillIn 17 = .ok (.getfield 121, 3) := by decide +kernel
theorem dX2_stillIn_20 : decode cX2_stillIn 20 = .ok (.iload_n 1, 1) := by decide +kernel
theorem dX2_stillIn_21 : decode cX2_stillIn 21 = .ok (.iaload, 1) := by decide +kernel
theorem dX2_stillIn_22 : decode cX2_stillIn 22 = .ok (.i2l, 1) := by decide +kernel
theorem dX2_stillIn_23 : decode cX2_stillIn 23 = .ok (.ldc2_w 110, 3) := by decide +kernel
theorem dX2_stillIn_26 : decode cX2_stillIn 26 = .ok (.lmul, 1) := by decide +kernel
theorem dX2_stillIn_27 : decode cX2_stillIn 27 = .ok (.aload_n 0, 1) := by decide +kernel
theorem dX2_stillIn_28 : decode cX2_stillIn 28 = .ok (.getfield 25, 3) := by decide +kernel
theorem dX2_stillIn_31 : decode cX2_stillIn 31 = .ok (.iload_n 1, 1) := by decide +kernel
theorem dX2_stillIn_32 : decode cX2_stillIn 32 = .ok (.laload, 1) := by decide +kernel
theorem dX2_stillIn_33 : decode cX2_stillIn 33 = .ok (.lsub, 1) := by decide +kernel
theorem dX2_stillIn_34 : decode cX2_stillIn 34 = .ok (.lreturn, 1) := by decide +kernel
theorem dX2_stillIn_35 : decode cX2_stillIn 35 = .ok (.lconst 0, 1) := by decide +kernel
theorem dX2_stillIn_36 : decode cX2_stillIn 36 = .ok (.lstore_n 2, 1) := by decide +kernel
theorem dX2_stillIn_37 : decode cX2_stillIn 37 = .ok (.iconst 0, 1) := by decide +kernel
theorem dX2_stillIn_38 : decode cX2_stillIn 38 = .ok (.istore 4, 2) := by decide +kernel
theorem dX2_stillIn_40 : decode cX2_stillIn 40 = .ok (.iload 4, 2) := by decide +kernel
theorem dX2_stillIn_42 : decode cX2_stillIn 42 = .ok (.bipush 40, 2) := by decide +kernel
theorem dX2_stillIn_44 : decode cX2_stillIn 44 = .ok (.if_icmp .ge 24, 3) := by decide +kernel
theorem dX2_stillIn_47 : decode cX2_stillIn 47 = .ok (.lload_n 2, 1) := by decide +kernel
theorem dX2_stillIn_48 : decode cX2_stillIn 48 = .ok (.aload_n 0, 1) := by decide +kernel
theorem dX2_stillIn_49 : decode cX2_stillIn 49 = .ok (.getfield 31, 3) := by decide +kernel
theorem dX2_stillIn_52 : decode cX2_stillIn 52 = .ok (.iload_n 1, 1) := by decide +kernel
theorem dX2_stillIn_53 : decode cX2_stillIn 53 = .ok (.bipush 40, 2) := by decide +kernel
theorem dX2_stillIn_55 : decode cX2_stillIn 55 = .ok (.imul, 1) := by decide +kernel
theorem dX2_stillIn_56 : decode cX2_stillIn 56 = .ok (.iload 4, 2) := by decide +kernel
theorem dX2_stillIn_58 : decode cX2_stillIn 58 = .ok (.iadd, 1) := by decide +kernel
theorem dX2_stillIn_59 : decode cX2_stillIn 59 = .ok (.laload, 1) := by decide +kernel
theorem dX2_stillIn_60 : decode cX2_stillIn 60 = .ok (.ladd, 1) := by decide +kernel
theorem dX2_stillIn_61 : decode cX2_stillIn 61 = .ok (.lstore_n 2, 1) := by decide +kernel
theorem dX2_stillIn_62 : decode cX2_stillIn 62 = .ok (.iinc 4 1, 3) := by decide +kernel
theorem dX2_stillIn_65 : decode cX2_stillIn 65 = .ok (.goto (-25), 3) := by decide +kernel
theorem dX2_stillIn_68 : decode cX2_stillIn 68 = .ok (.lload_n 2, 1) := by decide +kernel
theorem dX2_stillIn_69 : decode cX2_stillIn 69 = .ok (.lreturn, 1) := by decide +kernel
theorem dX2_duesOf_0 : decode cX2_duesOf 0 = .ok (.lconst 0, 1) := by decide +kernel
theorem dX2_duesOf_1 : decode cX2_duesOf 1 = .ok (.lstore 4, 2) := by decide +kernel
theorem dX2_duesOf_3 : decode cX2_duesOf 3 = .ok (.iload_n 2, 1) := by decide +kernel
theorem dX2_duesOf_4 : decode cX2_duesOf 4 = .ok (.istore 6, 2) := by decide +kernel
theorem dX2_duesOf_6 : decode cX2_duesOf 6 = .ok (.iload 6, 2) := by decide +kernel
theorem dX2_duesOf_8 : decode cX2_duesOf 8 = .ok (.iload_n 3, 1) := by decide +kernel
theorem dX2_duesOf_9 : decode cX2_duesOf 9 = .ok (.if_icmp .ge 27, 3) := by decide +kernel
theorem dX2_duesOf_12 : decode cX2_duesOf 12 = .ok (.lload 4, 2) := by decide +kernel
theorem dX2_duesOf_14 : decode cX2_duesOf 14 = .ok (.aload_n 0, 1) := by decide +kernel
theorem dX2_duesOf_15 : decode cX2_duesOf 15 = .ok (.getfield 21, 3) := by decide +kernel
theorem dX2_duesOf_18 : decode cX2_duesOf 18 = .ok (.iload_n 1, 1) := by decide +kernel
theorem dX2_duesOf_19 : decode cX2_duesOf 19 = .ok (.bipush 40, 2) := by decide +kernel
theorem dX2_duesOf_21 : decode cX2_duesOf 21 = .ok (.imul, 1) := by decide +kernel
theorem dX2_duesOf_22 : decode cX2_duesOf 22 = .ok (.iload 6, 2) := by decide +kernel
theorem dX2_duesOf_24 : decode cX2_duesOf 24 = .ok (.iadd, 1) := by decide +kernel
theorem dX2_duesOf_25 : decode cX2_duesOf 25 = .ok (.iaload, 1) := by decide +kernel
theorem dX2_duesOf_26 : decode cX2_duesOf 26 = .ok (.i2l, 1) := by decide +kernel
theorem dX2_duesOf_27 : decode cX2_duesOf 27 = .ok (.ladd, 1) := by decide +kernel
theorem dX2_duesOf_28 : decode cX2_duesOf 28 = .ok (.lstore 4, 2) := by decide +kernel
theorem dX2_duesOf_30 : decode cX2_duesOf 30 = .ok (.iinc 6 1, 3) := by decide +kernel
theorem dX2_duesOf_33 : decode cX2_duesOf 33 = .ok (.goto (-27), 3) := by decide +kernel
theorem dX2_duesOf_36 : decode cX2_duesOf 36 = .ok (.lload 4, 2) := by decide +kernel
theorem dX2_duesOf_38 : decode cX2_duesOf 38 = .ok (.lreturn, 1) := by decide +kernel
set_option maxRecDepth 20000 in
theorem ggX2_takeSentOf_X2_takeSent : GoodIn wsX2_takeSentOf wsX2_takeSent := goodIn_r _ [12, 13, 14, 15, 16, 17, 18, 19, 20, 21, 22, 23, 24, 25, 26, 27, 28, 29, 30, 31, 32, 33, 34, 35, 36, 37, 38, 39, 40, 41, 42, 43, 44, 45, 51, 52, 53, 54, 55, 56, 57, 58, 59] (by decide +kernel) (by decide +kernel)
set_option maxRecDepth 20000 in
theorem gX2_takeSentOf_X2_takeSent : GoodIn wsX2_takeSentOf (wsV RX2 138 RX2 yX2_takeSent wsX2_takeSent) := goodIn_app (goodIn_of _ (by decide +kernel)) ggX2_takeSentOf_X2_takeSent
theorem dX2_takeSentOf_0 : decode cX2_takeSentOf 0 = .ok (.aload_n 0, 1) := by decide +kernel
theorem dX2_takeSentOf_1 : decode cX2_takeSentOf 1 = .ok (.getfield 82, 3) := by decide +kernel
theorem dX2_takeSentOf_4 : decode cX2_takeSentOf 4 = .ok (.aload_n 0, 1) := by decide +kernel
theorem dX2_takeSentOf_5 : decode cX2_takeSentOf 5 = .ok (.getfield 55, 3) := by decide +kernel
theorem dX2_takeSentOf_8 : decode cX2_takeSentOf 8 = .ok (.getfield 124, 3) := by decide +kernel
theorem dX2_takeSentOf_11 : decode cX2_takeSentOf 11 = .ok (.if_icmp .ge 65, 3) := by decide +kernel
theorem dX2_takeSentOf_14 : decode cX2_takeSentOf 14 = .ok (.aload_n 0, 1) := by decide +kernel
theorem dX2_takeSentOf_15 : decode cX2_takeSentOf 15 = .ok (.getfield 55, 3) := by decide +kernel
theorem dX2_takeSentOf_18 : decode cX2_takeSentOf 18 = .ok (.getfield 129, 3) := by decide +kernel
theorem dX2_takeSentOf_21 : decode cX2_takeSentOf 21 = .ok (.aload_n 0, 1) := by decide +kernel
theorem dX2_takeSentOf_22 : decode cX2_takeSentOf 22 = .ok (.getfield 82, 3) := by decide +kernel
theorem dX2_takeSentOf_25 : decode cX2_takeSentOf 25 = .ok (.iaload, 1) := by decide +kernel
theorem dX2_takeSentOf_26 : decode cX2_takeSentOf 26 = .ok (.iload_n 1, 1) := by decide +kernel
theorem dX2_takeSentOf_27 : decode cX2_takeSentOf 27 = .ok (.if_icmp .ne 49, 3) := by decide +kernel
theorem dX2_takeSentOf_30 : decode cX2_takeSentOf 30 = .ok (.aload_n 0, 1) := by decide +kernel
theorem dX2_takeSentOf_31 : decode cX2_takeSentOf 31 = .ok (.aload_n 0, 1) := by decide +kernel
theorem dX2_takeSentOf_32 : decode cX2_takeSentOf 32 = .ok (.getfield 55, 3) := by decide +kernel
theorem dX2_takeSentOf_35 : decode cX2_takeSentOf 35 = .ok (.getfield 132, 3) := by decide +kernel
theorem dX2_takeSentOf_38 : decode cX2_takeSentOf 38 = .ok (.aload_n 0, 1) := by decide +kernel
theorem dX2_takeSentOf_39 : decode cX2_takeSentOf 39 = .ok (.getfield 82, 3) := by decide +kernel
theorem dX2_takeSentOf_42 : decode cX2_takeSentOf 42 = .ok (.iaload, 1) := by decide +kernel
theorem dX2_takeSentOf_43 : decode cX2_takeSentOf 43 = .ok (.aload_n 0, 1) := by decide +kernel
theorem dX2_takeSentOf_44 : decode cX2_takeSentOf 44 = .ok (.getfield 55, 3) := by decide +kernel
theorem dX2_takeSentOf_47 : decode cX2_takeSentOf 47 = .ok (.getfield 135, 3) := by decide +kernel
theorem dX2_takeSentOf_50 : decode cX2_takeSentOf 50 = .ok (.aload_n 0, 1) := by decide +kernel
theorem dX2_takeSentOf_51 : decode cX2_takeSentOf 51 = .ok (.getfield 82, 3) := by decide +kernel
theorem dX2_takeSentOf_54 : decode cX2_takeSentOf 54 = .ok (.iaload, 1) := by decide +kernel
theorem dX2_takeSentOf_55 : decode cX2_takeSentOf 55 = .ok (.i2l, 1) := by decide +kernel
theorem dX2_takeSentOf_56 : decode cX2_takeSentOf 56 = .ok (.ldc2_w 110, 3) := by decide +kernel
theorem dX2_takeSentOf_59 : decode cX2_takeSentOf 59 = .ok (.lmul, 1) := by decide +kernel
theorem dX2_takeSentOf_60 : decode cX2_takeSentOf 60 = .ok (.invokevirtual 138, 3) := by decide +kernel
theorem dX2_takeSentOf_63 : decode cX2_takeSentOf 63 = .ok (.aload_n 0, 1) := by decide +kernel
theorem dX2_takeSentOf_64 : decode cX2_takeSentOf 64 = .ok (.dup, 1) := by decide +kernel
theorem dX2_takeSentOf_65 : decode cX2_takeSentOf 65 = .ok (.getfield 82, 3) := by decide +kernel
theorem dX2_takeSentOf_68 : decode cX2_takeSentOf 68 = .ok (.iconst 1, 1) := by decide +kernel
theorem dX2_takeSentOf_69 : decode cX2_takeSentOf 69 = .ok (.iadd, 1) := by decide +kernel
theorem dX2_takeSentOf_70 : decode cX2_takeSentOf 70 = .ok (.putfield 82, 3) := by decide +kernel
theorem dX2_takeSentOf_73 : decode cX2_takeSentOf 73 = .ok (.goto (-73), 3) := by decide +kernel
theorem dX2_takeSentOf_76 : decode cX2_takeSentOf 76 = .ok (.return_, 1) := by decide +kernel
set_option maxRecDepth 20000 in
theorem ggX2_takeSent_X0_isReserveOf : GoodIn wsX2_takeSent wsX0_isReserveOf := goodIn_r _ [15, 16, 17, 34, 35, 36, 37, 38, 39, 40, 41, 42] (by decide +kernel) (by decide +kernel)
set_option maxRecDepth 20000 in
theorem gX2_takeSent_X0_isReserveOf : GoodIn wsX2_takeSent (wsV RX2 143 RX0 yX0_isReserveOf wsX0_isReserveOf) := goodIn_app (goodIn_of _ (by decide +kernel)) ggX2_takeSent_X0_isReserveOf
theorem dX2_takeSent_0 : decode cX2_takeSent 0 = .ok (.lload_n 2, 1) := by decide +kernel
theorem dX2_takeSent_1 : decode cX2_takeSent 1 = .ok (.lstore 4, 2) := by decide +kernel
theorem dX2_takeSent_3 : decode cX2_takeSent 3 = .ok (.iconst 0, 1) := by decide +kernel
theorem dX2_takeSent_4 : decode cX2_takeSent 4 = .ok (.istore 6, 2) := by decide +kernel
theorem dX2_takeSent_6 : decode cX2_takeSent 6 = .ok (.iload 6, 2) := by decide +kernel
theorem dX2_takeSent_8 : decode cX2_takeSent 8 = .ok (.aload_n 0, 1) := by decide +kernel
theorem dX2_takeSent_9 : decode cX2_takeSent 9 = .ok (.getfield 78, 3) := by decide +kernel
theorem dX2_takeSent_12 : decode cX2_takeSent 12 = .ok (.if_icmp .ge 95, 3) := by decide +kernel
theorem dX2_takeSent_15 : decode cX2_takeSent 15 = .ok (.lload 4, 2) := by decide +kernel
theorem dX2_takeSent_17 : decode cX2_takeSent 17 = .ok (.lconst 0, 1) := by decide +kernel
theorem dX2_takeSent_18 : decode cX2_takeSent 18 = .ok (.lcmp, 1) := by decide +kernel
theorem dX2_takeSent_19 : decode cX2_takeSent 19 = .ok (.ifCond .le 88, 3) := by decide +kernel
theorem dX2_takeSent_22 : decode cX2_takeSent 22 = .ok (.iconst 0, 1) := by decide +kernel
theorem dX2_takeSent_23 : decode cX2_takeSent 23 = .ok (.istore 7, 2) := by decide +kernel
theorem dX2_takeSent_25 : decode cX2_takeSent 25 = .ok (.iload 7, 2) := by decide +kernel
theorem dX2_takeSent_27 : decode cX2_takeSent 27 = .ok (.aload_n 0, 1) := by decide +kernel
theorem dX2_takeSent_28 : decode cX2_takeSent 28 = .ok (.getfield 45, 3) := by decide +kernel
theorem dX2_takeSent_31 : decode cX2_takeSent 31 = .ok (.getfield 142, 3) := by decide +kernel
theorem dX2_takeSent_34 : decode cX2_takeSent 34 = .ok (.if_icmp .ge 67, 3) := by decide +kernel
theorem dX2_takeSent_37 : decode cX2_takeSent 37 = .ok (.aload_n 0, 1) := by decide +kernel
theorem dX2_takeSent_38 : decode cX2_takeSent 38 = .ok (.getfield 45, 3) := by decide +kernel
theorem dX2_takeSent_41 : decode cX2_takeSent 41 = .ok (.iload 7, 2) := by decide +kernel
theorem dX2_takeSent_43 : decode cX2_takeSent 43 = .ok (.iload_n 1, 1) := by decide +kernel
theorem dX2_takeSent_44 : decode cX2_takeSent 44 = .ok (.invokevirtual 143, 3) := by decide +kernel
theorem dX2_takeSent_47 : decode cX2_takeSent 47 = .ok (.ifCond .eq 48, 3) := by decide +kernel
theorem dX2_takeSent_50 : decode cX2_takeSent 50 = .ok (.lload 4, 2) := by decide +kernel
theorem dX2_takeSent_52 : decode cX2_takeSent 52 = .ok (.aload_n 0, 1) := by decide +kernel
theorem dX2_takeSent_53 : decode cX2_takeSent 53 = .ok (.getfield 31, 3) := by decide +kernel
theorem dX2_takeSent_56 : decode cX2_takeSent 56 = .ok (.iload 7, 2) := by decide +kernel
theorem dX2_takeSent_58 : decode cX2_takeSent 58 = .ok (.bipush 40, 2) := by decide +kernel
theorem dX2_takeSent_60 : decode cX2_takeSent 60 = .ok (.imul, 1) := by decide +kernel
theorem dX2_takeSent_61 : decode cX2_takeSent 61 = .ok (.iload 6, 2) := by decide +kernel
theorem dX2_takeSent_63 : decode cX2_takeSent 63 = .ok (.iadd, 1) := by decide +kernel
theorem dX2_takeSent_64 : decode cX2_takeSent 64 = .ok (.laload, 1) := by decide +kernel
theorem dX2_takeSent_65 : decode cX2_takeSent 65 = .ok (.invokestatic 147, 3) := by decide +kernel
theorem dX2_takeSent_68 : decode cX2_takeSent 68 = .ok (.lstore 8, 2) := by decide +kernel
theorem dX2_takeSent_70 : decode cX2_takeSent 70 = .ok (.aload_n 0, 1) := by decide +kernel
theorem dX2_takeSent_71 : decode cX2_takeSent 71 = .ok (.getfield 31, 3) := by decide +kernel
theorem dX2_takeSent_74 : decode cX2_takeSent 74 = .ok (.iload 7, 2) := by decide +kernel
theorem dX2_takeSent_76 : decode cX2_takeSent 76 = .ok (.bipush 40, 2) := by decide +kernel
theorem dX2_takeSent_78 : decode cX2_takeSent 78 = .ok (.imul, 1) := by decide +kernel
theorem dX2_takeSent_79 : decode cX2_takeSent 79 = .ok (.iload 6, 2) := by decide +kernel
theorem dX2_takeSent_81 : decode cX2_takeSent 81 = .ok (.iadd, 1) := by decide +kernel
theorem dX2_takeSent_82 : decode cX2_takeSent 82 = .ok (.dup2, 1) := by decide +kernel
theorem dX2_takeSent_83 : decode cX2_takeSent 83 = .ok (.laload, 1) := by decide +kernel
theorem dX2_takeSent_84 : decode cX2_takeSent 84 = .ok (.lload 8, 2) := by decide +kernel
theorem dX2_takeSent_86 : decode cX2_takeSent 86 = .ok (.lsub, 1) := by decide +kernel
theorem dX2_takeSent_87 : decode cX2_takeSent 87 = .ok (.lastore, 1) := by decide +kernel
theorem dX2_takeSent_88 : decode cX2_takeSent 88 = .ok (.lload 4, 2) := by decide +kernel
theorem dX2_takeSent_90 : decode cX2_takeSent 90 = .ok (.lload 8, 2) := by decide +kernel
theorem dX2_takeSent_92 : decode cX2_takeSent 92 = .ok (.lsub, 1) := by decide +kernel
theorem dX2_takeSent_93 : decode cX2_takeSent 93 = .ok (.lstore 4, 2) := by decide +kernel
theorem dX2_takeSent_95 : decode cX2_takeSent 95 = .ok (.iinc 7 1, 3) := by decide +kernel
theorem dX2_takeSent_98 : decode cX2_takeSent 98 = .ok (.goto (-73), 3) := by decide +kernel
theorem dX2_takeSent_101 : decode cX2_takeSent 101 = .ok (.iinc 6 1, 3) := by decide +kernel
theorem dX2_takeSent_104 : decode cX2_takeSent 104 = .ok (.goto (-98), 3) := by decide +kernel
theorem dX2_takeSent_107 : decode cX2_takeSent 107 = .ok (.aload_n 0, 1) := by decide +kernel
theorem dX2_takeSent_108 : decode cX2_takeSent 108 = .ok (.getfield 15, 3) := by decide +kernel
theorem dX2_takeSent_111 : decode cX2_takeSent 111 = .ok (.iload_n 1, 1) := by decide +kernel
theorem dX2_takeSent_112 : decode cX2_takeSent 112 = .ok (.dup2, 1) := by decide +kernel
theorem dX2_takeSent_113 : decode cX2_takeSent 113 = .ok (.laload, 1) := by decide +kernel
theorem dX2_takeSent_114 : decode cX2_takeSent 114 = .ok (.lload 4, 2) := by decide +kernel
theorem dX2_takeSent_116 : decode cX2_takeSent 116 = .ok (.ladd, 1) := by decide +kernel
theorem dX2_takeSent_117 : decode cX2_takeSent 117 = .ok (.lastore, 1) := by decide +kernel
theorem dX2_takeSent_118 : decode cX2_takeSent 118 = .ok (.aload_n 0, 1) := by decide +kernel
theorem dX2_takeSent_119 : decode cX2_takeSent 119 = .ok (.lload 4, 2) := by decide +kernel
theorem dX2_takeSent_121 : decode cX2_takeSent 121 = .ok (.putfield 150, 3) := by decide +kernel
theorem dX2_takeSent_124 : decode cX2_takeSent 124 = .ok (.return_, 1) := by decide +kernel
set_option maxRecDepth 20000 in
theorem ggX2_closeTerm_X4_sizeOf : GoodIn wsX2_closeTerm wsX4_sizeOf := goodIn_r _ [9, 10, 150, 151, 152, 153, 154, 155] (by decide +kernel) (by decide +kernel)
set_option maxRecDepth 20000 in
theorem gX2_closeTerm_X4_sizeOf : GoodIn wsX2_closeTerm (wsV RX2 154 RX4 yX4_sizeOf wsX4_sizeOf) := goodIn_app (goodIn_of _ (by decide +kernel)) ggX2_closeTerm_X4_sizeOf
set_option maxRecDepth 20000 in
theorem ggX2_closeTerm_X4_workAt : GoodIn wsX2_closeTerm wsX4_workAt := goodIn_r _ [14, 15, 150, 151, 152, 153, 154, 155] (by decide +kernel) (by decide +kernel)
set_option maxRecDepth 20000 in
theorem gX2_closeTerm_X4_workAt : GoodIn wsX2_closeTerm (wsV RX2 160 RX4 yX4_workAt wsX4_workAt) := goodIn_app (goodIn_of _ (by decide +kernel)) ggX2_closeTerm_X4_workAt
set_option maxRecDepth 20000 in
theorem ggX2_closeTerm_X4_isOpen : GoodIn wsX2_closeTerm wsX4_isOpen := goodIn_r _ [19, 20, 150, 151, 152, 153, 154, 155] (by decide +kernel) (by decide +kernel)
set_option maxRecDepth 20000 in
theorem gX2_closeTerm_X4_isOpen : GoodIn wsX2_closeTerm (wsV RX2 163 RX4 yX4_isOpen wsX4_isOpen) := goodIn_app (goodIn_of _ (by decide +kernel)) ggX2_closeTerm_X4_isOpen
set_option maxRecDepth 20000 in
theorem ggX2_closeTerm_X2_bringIn : GoodIn wsX2_closeTerm wsX2_bringIn := goodIn_r _ [25, 3, 4, 26, 27, 28, 29, 30, 31, 32, 33, 34, 8, 35, 36, 37, 38, 39, 40, 41, 42, 43, 44, 24, 45, 46, 47, 48, 49, 50, 51, 52, 53, 54, 55, 56, 1, 57, 58, 59, 60, 61, 62, 63, 64, 65, 66, 67, 68, 69, 70, 71, 72, 73, 74, 75, 76, 77, 78, 79, 80, 81, 82, 83, 84, 85, 86, 87, 88, 89, 90, 91, 92, 93, 94, 95, 96, 97, 98, 99, 100, 101, 102, 103, 104, 105, 127, 128, 129, 130, 131, 132, 133, 134, 135, 136, 137, 138, 139, 140, 141, 142, 156, 157, 158, 159, 150, 151, 152, 153, 154, 155, 160, 161, 162, 163, 164, 165, 166, 167, 168, 143, 144, 145, 146, 147, 148, 149] (by decide +kernel) (by decide +kernel)
set_option maxRecDepth 20000 in
theorem gX2_closeTerm_X2_bringIn : GoodIn wsX2_closeTerm (wsV RX2 166 RX2 yX2_bringIn wsX2_bringIn) := goodIn_app (goodIn_of _ (by decide +kernel)) ggX2_closeTerm_X2_bringIn
set_option maxRecDepth 20000 in
theorem ggX2_closeTerm_X2_emptyOldBags : GoodIn wsX2_closeTerm wsX2_emptyOldBags := goodIn_r _ [109, 57, 58, 59, 4, 96, 64, 110, 62, 127, 128, 129, 130, 131, 132, 133, 134, 135, 136, 137, 138, 139, 140, 141, 142, 160, 161, 162, 163, 164, 165, 166, 167, 168] (by decide +kernel) (by decide +kernel)
set_option maxRecDepth 20000 in
theorem gX2_closeTerm_X2_emptyOldBags : GoodIn wsX2_closeTerm (wsV RX2 169 RX2 yX2_emptyOldBags wsX2_emptyOldBags) := goodIn_app (goodIn_of _ (by decide +kernel)) ggX2_closeTerm_X2_emptyOldBags
set_option maxRecDepth 20000 in
theorem ggX2_closeTerm_X2_payHands : GoodIn wsX2_closeTerm wsX2_payHands := goodIn_r _ [114, 115, 64, 92, 93, 94, 95, 28, 97, 98, 99, 116, 4, 127, 128, 129, 130, 131, 132, 133, 134, 135, 136, 137, 138, 139, 140, 141, 142] (by decide +kernel) (by decide +kernel)
set_option maxRecDepth 20000 in
theorem gX2_closeTerm_X2_payHands : GoodIn wsX2_closeTerm (wsV RX2 172 RX2 yX2_payHands wsX2_payHands) := goodIn_app (goodIn_of _ (by decide +kernel)) ggX2_closeTerm_X2_payHands
set_option maxRecDepth 20000 in
theorem ggX2_closeTerm_X2_fillFloors : GoodIn wsX2_closeTerm wsX2_fillFloors := goodIn_r _ [120, 57, 58, 59, 121, 110, 4, 91, 97, 98, 94, 99, 116, 122, 42, 43, 44, 24, 45, 123, 124, 125, 126, 127, 128, 129, 130, 131, 132, 133, 134, 135, 136, 137, 138, 139, 140, 141, 142, 160, 161, 162, 163, 164, 165, 166, 167, 168] (by decide +kernel) (by decide +kernel)
set_option maxRecDepth 20000 in
theorem gX2_closeTerm_X2_fillFloors : GoodIn wsX2_closeTerm (wsV RX2 175 RX2 yX2_fillFloors wsX2_fillFloors) := goodIn_app (goodIn_of _ (by decide +kernel)) ggX2_closeTerm_X2_fillFloors
theorem dX2_closeTerm_0 : decode cX2_closeTerm 0 = .ok (.aload_n 0, 1) := by decide +kernel
theorem dX2_closeTerm_1 : decode cX2_closeTerm 1 = .ok (.getfield 61, 3) := by decide +kernel
theorem dX2_closeTerm_4 : decode cX2_closeTerm 4 = .ok (.iconst 0, 1) := by decide +kernel
theorem dX2_closeTerm_5 : decode cX2_closeTerm 5 = .ok (.putfield 153, 3) := by decide +kernel
theorem dX2_closeTerm_8 : decode cX2_closeTerm 8 = .ok (.iconst 0, 1) := by decide +kernel
theorem dX2_closeTerm_9 : decode cX2_closeTerm 9 = .ok (.istore_n 1, 1) := by decide +kernel
theorem dX2_closeTerm_10 : decode cX2_closeTerm 10 = .ok (.iload_n 1, 1) := by decide +kernel
theorem dX2_closeTerm_11 : decode cX2_closeTerm 11 = .ok (.aload_n 0, 1) := by decide +kernel
theorem dX2_closeTerm_12 : decode cX2_closeTerm 12 = .ok (.getfield 50, 3) := by decide +kernel
theorem dX2_closeTerm_15 : decode cX2_closeTerm 15 = .ok (.aload_n 0, 1) := by decide +kernel
theorem dX2_closeTerm_16 : decode cX2_closeTerm 16 = .ok (.getfield 78, 3) := by decide +kernel
theorem dX2_closeTerm_19 : decode cX2_closeTerm 19 = .ok (.invokevirtual 154, 3) := by decide +kernel
theorem dX2_closeTerm_22 : decode cX2_closeTerm 22 = .ok (.if_icmp .ge 42, 3) := by decide +kernel
theorem dX2_closeTerm_25 : decode cX2_closeTerm 25 = .ok (.aload_n 0, 1) := by decide +kernel
theorem dX2_closeTerm_26 : decode cX2_closeTerm 26 = .ok (.getfield 50, 3) := by decide +kernel
theorem dX2_closeTerm_29 : decode cX2_closeTerm 29 = .ok (.aload_n 0, 1) := by decide +kernel
theorem dX2_closeTerm_30 : decode cX2_closeTerm 30 = .ok (.getfield 78, 3) := by decide +kernel
theorem dX2_closeTerm_33 : decode cX2_closeTerm 33 = .ok (.iload_n 1, 1) := by decide +kernel
theorem dX2_closeTerm_34 : decode cX2_closeTerm 34 = .ok (.invokevirtual 160, 3) := by decide +kernel
theorem dX2_closeTerm_37 : decode cX2_closeTerm 37 = .ok (.istore_n 2, 1) := by decide +kernel
theorem dX2_closeTerm_38 : decode cX2_closeTerm 38 = .ok (.aload_n 0, 1) := by decide +kernel
theorem dX2_closeTerm_39 : decode cX2_closeTerm 39 = .ok (.getfield 50, 3) := by decide +kernel
theorem dX2_closeTerm_42 : decode cX2_closeTerm 42 = .ok (.aload_n 0, 1) := by decide +kernel
theorem dX2_closeTerm_43 : decode cX2_closeTerm 43 = .ok (.getfield 78, 3) := by decide +kernel
theorem dX2_closeTerm_46 : decode cX2_closeTerm 46 = .ok (.iload_n 2, 1) := by decide +kernel
theorem dX2_closeTerm_47 : decode cX2_closeTerm 47 = .ok (.invokevirtual 163, 3) := by decide +kernel
theorem dX2_closeTerm_50 : decode cX2_closeTerm 50 = .ok (.ifCond .ne 8, 3) := by decide +kernel
theorem dX2_closeTerm_53 : decode cX2_closeTerm 53 = .ok (.aload_n 0, 1) := by decide +kernel
theorem dX2_closeTerm_54 : decode cX2_closeTerm 54 = .ok (.iload_n 2, 1) := by decide +kernel
theorem dX2_closeTerm_55 : decode cX2_closeTerm 55 = .ok (.invokevirtual 166, 3) := by decide +kernel
theorem dX2_closeTerm_58 : decode cX2_closeTerm 58 = .ok (.iinc 1 1, 3) := by decide +kernel
theorem dX2_closeTerm_61 : decode cX2_closeTerm 61 = .ok (.goto (-51), 3) := by decide +kernel
theorem dX2_closeTerm_64 : decode cX2_closeTerm 64 = .ok (.aload_n 0, 1) := by decide +kernel
theorem dX2_closeTerm_65 : decode cX2_closeTerm 65 = .ok (.invokevirtual 169, 3) := by decide +kernel
theorem dX2_closeTerm_68 : decode cX2_closeTerm 68 = .ok (.aload_n 0, 1) := by decide +kernel
theorem dX2_closeTerm_69 : decode cX2_closeTerm 69 = .ok (.invokevirtual 172, 3) := by decide +kernel
theorem dX2_closeTerm_72 : decode cX2_closeTerm 72 = .ok (.aload_n 0, 1) := by decide +kernel
theorem dX2_closeTerm_73 : decode cX2_closeTerm 73 = .ok (.getfield 78, 3) := by decide +kernel
theorem dX2_closeTerm_76 : decode cX2_closeTerm 76 = .ok (.iconst 4, 1) := by decide +kernel
theorem dX2_closeTerm_77 : decode cX2_closeTerm 77 = .ok (.irem, 1) := by decide +kernel
theorem dX2_closeTerm_78 : decode cX2_closeTerm 78 = .ok (.iconst 3, 1) := by decide +kernel
theorem dX2_closeTerm_79 : decode cX2_closeTerm 79 = .ok (.if_icmp .ne 7, 3) := by decide +kernel
theorem dX2_closeTerm_82 : decode cX2_closeTerm 82 = .ok (.aload_n 0, 1) := by decide +kernel
theorem dX2_closeTerm_83 : decode cX2_closeTerm 83 = .ok (.invokevirtual 175, 3) := by decide +kernel
theorem dX2_closeTerm_86 : decode cX2_closeTerm 86 = .ok (.aload_n 0, 1) := by decide +kernel
theorem dX2_closeTerm_87 : decode cX2_closeTerm 87 = .ok (.dup, 1) := by decide +kernel
theorem dX2_closeTerm_88 : decode cX2_closeTerm 88 = .ok (.getfield 78, 3) := by decide +kernel
theorem dX2_closeTerm_91 : decode cX2_closeTerm 91 = .ok (.iconst 1, 1) := by decide +kernel
theorem dX2_closeTerm_92 : decode cX2_closeTerm 92 = .ok (.iadd, 1) := by decide +kernel
theorem dX2_closeTerm_93 : decode cX2_closeTerm 93 = .ok (.putfield 78, 3) := by decide +kernel
theorem dX2_closeTerm_96 : decode cX2_closeTerm 96 = .ok (.return_, 1) := by decide +kernel
theorem dX2_lastDay_0 : decode cX2_lastDay 0 = .ok (.aload_n 0, 1) := by decide +kernel
theorem dX2_lastDay_1 : decode cX2_lastDay 1 = .ok (.getfield 78, 3) := by decide +kernel
theorem dX2_lastDay_4 : decode cX2_lastDay 4 = .ok (.bipush 90, 2) := by decide +kernel
theorem dX2_lastDay_6 : decode cX2_lastDay 6 = .ok (.imul, 1) := by decide +kernel
theorem dX2_lastDay_7 : decode cX2_lastDay 7 = .ok (.bipush 90, 2) := by decide +kernel
theorem dX2_lastDay_9 : decode cX2_lastDay 9 = .ok (.iadd, 1) := by decide +kernel
theorem dX2_lastDay_10 : decode cX2_lastDay 10 = .ok (.iconst 1, 1) := by decide +kernel
theorem dX2_lastDay_11 : decode cX2_lastDay 11 = .ok (.isub, 1) := by decide +kernel
theorem dX2_lastDay_12 : decode cX2_lastDay 12 = .ok (.ireturn, 1) := by decide +kernel
set_option maxRecDepth 20000 in
theorem ggX2_bringIn_X4_wayOf : GoodIn wsX2_bringIn wsX4_wayOf := goodIn_r _ [13, 14, 106, 107, 108, 109, 110, 111] (by decide +kernel) (by decide +kernel)
set_option maxRecDepth 20000 in
theorem gX2_bringIn_X4_wayOf : GoodIn wsX2_bringIn (wsV RX2 178 RX4 yX4_wayOf wsX4_wayOf) := goodIn_app (goodIn_of _ (by decide +kernel)) ggX2_bringIn_X4_wayOf
set_option maxRecDepth 20000 in
theorem ggX2_bringIn_X4_coinsOf : GoodIn wsX2_bringIn wsX4_coinsOf := goodIn_r _ [18, 19, 106, 107, 108, 109, 110, 111] (by decide +kernel) (by decide +kernel)
set_option maxRecDepth 20000 in
theorem gX2_bringIn_X4_coinsOf : GoodIn wsX2_bringIn (wsV RX2 181 RX4 yX4_coinsOf wsX4_coinsOf) := goodIn_app (goodIn_of _ (by decide +kernel)) ggX2_bringIn_X4_coinsOf
set_option maxRecDepth 20000 in
theorem ggX2_bringIn_X2_lastDay : GoodIn wsX2_bringIn wsX2_lastDay := goodIn_r _ [24, 2, 86, 87, 88, 89, 90, 91, 92, 93, 94, 95, 96, 97, 98, 99, 100, 101] (by decide +kernel) (by decide +kernel)
set_option maxRecDepth 20000 in
theorem gX2_bringIn_X2_lastDay : GoodIn wsX2_bringIn (wsV RX2 185 RX2 yX2_lastDay wsX2_lastDay) := goodIn_app (goodIn_of _ (by decide +kernel)) ggX2_bringIn_X2_lastDay
set_option maxRecDepth 20000 in
theorem ggX2_bringIn_X6_setAt : GoodIn wsX2_bringIn wsX6_setAt := goodIn_r _ [29, 30, 31, 102, 103, 104, 105] (by decide +kernel) (by decide +kernel)
set_option maxRecDepth 20000 in
theorem gX2_bringIn_X6_setAt : GoodIn wsX2_bringIn (wsV RX2 189 RX6 yX6_setAt wsX6_setAt) := goodIn_app (goodIn_of _ (by decide +kernel)) ggX2_bringIn_X6_setAt
set_option maxRecDepth 20000 in
theorem ggX2_bringIn_X2_runLine : GoodIn wsX2_bringIn wsX2_runLine := goodIn_r _ [35, 36, 37, 38, 39, 40, 41, 42, 2, 43, 44, 45, 46, 47, 48, 49, 50, 51, 52, 53, 54, 55, 56, 57, 58, 20, 21, 22, 23, 24, 59, 60, 61, 62, 63, 64, 65, 66, 67, 68, 69, 70, 71, 7, 5, 72, 73, 74, 75, 76, 77, 78, 79, 80, 32, 33, 34, 81, 82, 83, 84, 85, 86, 87, 88, 89, 90, 91, 92, 93, 94, 95, 96, 97, 98, 99, 100, 101, 112, 113, 114, 115, 116, 117, 118, 119, 120, 121, 122, 123, 124, 125, 126, 127] (by decide +kernel) (by decide +kernel)
set_option maxRecDepth 20000 in
theorem gX2_bringIn_X2_runLine : GoodIn wsX2_bringIn (wsV RX2 200 RX2 yX2_runLine wsX2_runLine) := goodIn_app (goodIn_of _ (by decide +kernel)) ggX2_bringIn_X2_runLine
theorem dX2_bringIn_0 : decode cX2_bringIn 0 = .ok (.aload_n 0, 1) := by decide +kernel
theorem dX2_bringIn_1 : decode cX2_bringIn 1 = .ok (.getfield 50, 3) := by decide +kernel
theorem dX2_bringIn_4 : decode cX2_bringIn 4 = .ok (.aload_n 0, 1) := by decide +kernel
theorem dX2_bringIn_5 : decode cX2_bringIn 5 = .ok (.getfield 78, 3) := by decide +kernel
theorem dX2_bringIn_8 : decode cX2_bringIn 8 = .ok (.iload_n 1, 1) := by decide +kernel
theorem dX2_bringIn_9 : decode cX2_bringIn 9 = .ok (.invokevirtual 178, 3) := by decide +kernel
theorem dX2_bringIn_12 : decode cX2_bringIn 12 = .ok (.iconst 2, 1) := by decide +kernel
theorem dX2_bringIn_13 : decode cX2_bringIn 13 = .ok (.if_icmp .ne 7, 3) := by decide +kernel
theorem dX2_bringIn_16 : decode cX2_bringIn 16 = .ok (.iconst 3, 1) := by decide +kernel
theorem dX2_bringIn_17 : decode cX2_bringIn 17 = .ok (.goto 4, 3) := by decide +kernel
theorem dX2_bringIn_20 : decode cX2_bringIn 20 = .ok (.iconst 1, 1) := by decide +kernel
theorem dX2_bringIn_21 : decode cX2_bringIn 21 = .ok (.istore_n 2, 1) := by decide +kernel
theorem dX2_bringIn_22 : decode cX2_bringIn 22 = .ok (.iconst 0, 1) := by decide +kernel
theorem dX2_bringIn_23 : decode cX2_bringIn 23 = .ok (.istore_n 3, 1) := by decide +kernel
theorem dX2_bringIn_24 : decode cX2_bringIn 24 = .ok (.iload_n 3, 1) := by decide +kernel
theorem dX2_bringIn_25 : decode cX2_bringIn 25 = .ok (.iload_n 2, 1) := by decide +kernel
theorem dX2_bringIn_26 : decode cX2_bringIn 26 = .ok (.if_icmp .ge 132, 3) := by decide +kernel
theorem dX2_bringIn_29 : decode cX2_bringIn 29 = .ok (.aload_n 0, 1) := by decide +kernel
theorem dX2_bringIn_30 : decode cX2_bringIn 30 = .ok (.getfield 50, 3) := by decide +kernel
theorem dX2_bringIn_33 : decode cX2_bringIn 33 = .ok (.aload_n 0, 1) := by decide +kernel
theorem dX2_bringIn_34 : decode cX2_bringIn 34 = .ok (.getfield 78, 3) := by decide +kernel
theorem dX2_bringIn_37 : decode cX2_bringIn 37 = .ok (.iload_n 1, 1) := by decide +kernel
theorem dX2_bringIn_38 : decode cX2_bringIn 38 = .ok (.iload_n 3, 1) := by decide +kernel
theorem dX2_bringIn_39 : decode cX2_bringIn 39 = .ok (.invokevirtual 181, 3) := by decide +kernel
theorem dX2_bringIn_42 : decode cX2_bringIn 42 = .ok (.i2l, 1) := by decide +kernel
theorem dX2_bringIn_43 : decode cX2_bringIn 43 = .ok (.lstore 4, 2) := by decide +kernel
theorem dX2_bringIn_45 : decode cX2_bringIn 45 = .ok (.aload_n 0, 1) := by decide +kernel
theorem dX2_bringIn_46 : decode cX2_bringIn 46 = .ok (.getfield 40, 3) := by decide +kernel
theorem dX2_bringIn_49 : decode cX2_bringIn 49 = .ok (.iload_n 1, 1) := by decide +kernel
theorem dX2_bringIn_50 : decode cX2_bringIn 50 = .ok (.aload_n 0, 1) := by decide +kernel
theorem dX2_bringIn_51 : decode cX2_bringIn 51 = .ok (.invokevirtual 185, 3) := by decide +kernel
theorem dX2_bringIn_54 : decode cX2_bringIn 54 = .ok (.iload_n 2, 1) := by decide +kernel
theorem dX2_bringIn_55 : decode cX2_bringIn 55 = .ok (.iconst 1, 1) := by decide +kernel
theorem dX2_bringIn_56 : decode cX2_bringIn 56 = .ok (.isub, 1) := by decide +kernel
theorem dX2_bringIn_57 : decode cX2_bringIn 57 = .ok (.iload_n 3, 1) := by decide +kernel
theorem dX2_bringIn_58 : decode cX2_bringIn 58 = .ok (.isub, 1) := by decide +kernel
theorem dX2_bringIn_59 : decode cX2_bringIn 59 = .ok (.bipush 30, 2) := by decide +kernel
theorem dX2_bringIn_61 : decode cX2_bringIn 61 = .ok (.imul, 1) := by decide +kernel
theorem dX2_bringIn_62 : decode cX2_bringIn 62 = .ok (.isub, 1) := by decide +kernel
theorem dX2_bringIn_63 : decode cX2_bringIn 63 = .ok (.invokevirtual 189, 3) := by decide +kernel
theorem dX2_bringIn_66 : decode cX2_bringIn 66 = .ok (.istore 6, 2) := by decide +kernel
theorem dX2_bringIn_68 : decode cX2_bringIn 68 = .ok (.aload_n 0, 1) := by decide +kernel
theorem dX2_bringIn_69 : decode cX2_bringIn 69 = .ok (.dup, 1) := by decide +kernel
theorem dX2_bringIn_70 : decode cX2_bringIn 70 = .ok (.getfield 74, 3) := by decide +kernel
theorem dX2_bringIn_73 : decode cX2_bringIn 73 = .ok (.lload 4, 2) := by decide +kernel
theorem dX2_bringIn_75 : decode cX2_bringIn 75 = .ok (.ldc2_w 110, 3) := by decide +kernel
theorem dX2_bringIn_78 : decode cX2_bringIn 78 = .ok (.lmul, 1) := by decide +kernel
theorem dX2_bringIn_79 : decode cX2_bringIn 79 = .ok (.ladd, 1) := by decide +kernel
theorem dX2_bringIn_80 : decode cX2_bringIn 80 = .ok (.putfield 74, 3) := by decide +kernel
theorem dX2_bringIn_83 : decode cX2_bringIn 83 = .ok (.iload 6, 2) := by decide +kernel
theorem dX2_bringIn_85 : decode cX2_bringIn 85 = .ok (.iconst 3, 1) := by decide +kernel
theorem dX2_bringIn_86 : decode cX2_bringIn 86 = .ok (.imul, 1) := by decide +kernel
theorem dX2_bringIn_87 : decode cX2_bringIn 87 = .ok (.istore 7, 2) := by decide +kernel
theorem dX2_bringIn_89 : decode cX2_bringIn 89 = .ok (.iload 7, 2) := by decide +kernel
theorem dX2_bringIn_91 : decode cX2_bringIn 91 = .ok (.iload 6, 2) := by decide +kernel
theorem dX2_bringIn_93 : decode cX2_bringIn 93 = .ok (.iconst 1, 1) := by decide +kernel
theorem dX2_bringIn_94 : decode cX2_bringIn 94 = .ok (.iadd, 1) := by decide +kernel
theorem dX2_bringIn_95 : decode cX2_bringIn 95 = .ok (.iconst 3, 1) := by decide +kernel
theorem dX2_bringIn_96 : decode cX2_bringIn 96 = .ok (.imul, 1) := by decide +kernel
theorem dX2_bringIn_97 : decode cX2_bringIn 97 = .ok (.if_icmp .ge 55, 3) := by decide +kernel
theorem dX2_bringIn_100 : decode cX2_bringIn 100 = .ok (.lload 4, 2) := by decide +kernel
theorem dX2_bringIn_102 : decode cX2_bringIn 102 = .ok (.aload_n 0, 1) := by decide +kernel
theorem dX2_bringIn_103 : decode cX2_bringIn 103 = .ok (.getfield 40, 3) := by decide +kernel
theorem dX2_bringIn_106 : decode cX2_bringIn 106 = .ok (.getfield 194, 3) := by decide +kernel
theorem dX2_bringIn_109 : decode cX2_bringIn 109 = .ok (.iload 7, 2) := by decide +kernel
theorem dX2_bringIn_111 : decode cX2_bringIn 111 = .ok (.iaload, 1) := by decide +kernel
theorem dX2_bringIn_112 : decode cX2_bringIn 112 = .ok (.i2l, 1) := by decide +kernel
theorem dX2_bringIn_113 : decode cX2_bringIn 113 = .ok (.lmul, 1) := by decide +kernel
theorem dX2_bringIn_114 : decode cX2_bringIn 114 = .ok (.ldc2_w 197, 3) := by decide +kernel
theorem dX2_bringIn_117 : decode cX2_bringIn 117 = .ok (.lmul, 1) := by decide +kernel
theorem dX2_bringIn_118 : decode cX2_bringIn 118 = .ok (.lstore 8, 2) := by decide +kernel
theorem dX2_bringIn_120 : decode cX2_bringIn 120 = .ok (.lload 8, 2) := by decide +kernel
theorem dX2_bringIn_122 : decode cX2_bringIn 122 = .ok (.lconst 0, 1) := by decide +kernel
theorem dX2_bringIn_123 : decode cX2_bringIn 123 = .ok (.lcmp, 1) := by decide +kernel
theorem dX2_bringIn_124 : decode cX2_bringIn 124 = .ok (.ifCond .le 22, 3) := by decide +kernel
theorem dX2_bringIn_127 : decode cX2_bringIn 127 = .ok (.aload_n 0, 1) := by decide +kernel
theorem dX2_bringIn_128 : decode cX2_bringIn 128 = .ok (.iload_n 1, 1) := by decide +kernel
theorem dX2_bringIn_129 : decode cX2_bringIn 129 = .ok (.aload_n 0, 1) := by decide +kernel
theorem dX2_bringIn_130 : decode cX2_bringIn 130 = .ok (.getfield 40, 3) := by decide +kernel
theorem dX2_bringIn_133 : decode cX2_bringIn 133 = .ok (.getfield 199, 3) := by decide +kernel
theorem dX2_bringIn_136 : decode cX2_bringIn 136 = .ok (.iload 7, 2) := by decide +kernel
theorem dX2_bringIn_138 : decode cX2_bringIn 138 = .ok (.iaload, 1) := by decide +kernel
theorem dX2_bringIn_139 : decode cX2_bringIn 139 = .ok (.iconst (-1), 1) := by decide +kernel
theorem dX2_bringIn_140 : decode cX2_bringIn 140 = .ok (.iconst 0, 1) := by decide +kernel
theorem dX2_bringIn_141 : decode cX2_bringIn 141 = .ok (.lload 8, 2) := by decide +kernel
theorem dX2_bringIn_143 : decode cX2_bringIn 143 = .ok (.invokevirtual 200, 3) := by decide +kernel
theorem dX2_bringIn_146 : decode cX2_bringIn 146 = .ok (.iinc 7 1, 3) := by decide +kernel
theorem dX2_bringIn_149 : decode cX2_bringIn 149 = .ok (.goto (-60), 3) := by decide +kernel
theorem dX2_bringIn_152 : decode cX2_bringIn 152 = .ok (.iinc 3 1, 3) := by decide +kernel
theorem dX2_bringIn_155 : decode cX2_bringIn 155 = .ok (.goto (-131), 3) := by decide +kernel
theorem dX2_bringIn_158 : decode cX2_bringIn 158 = .ok (.return_, 1) := by decide +kernel
set_option maxRecDepth 20000 in
theorem ggX2_runLine_X3_begin : GoodIn wsX2_runLine wsX3_begin := goodIn_r _ [15, 16, 17, 18, 19, 20, 21, 87, 88, 89, 90, 91, 92, 93] (by decide +kernel) (by decide +kernel)
set_option maxRecDepth 20000 in
theorem gX2_runLine_X3_begin : GoodIn wsX2_runLine (wsV RX2 204 RX3 yX3_begin wsX3_begin) := goodIn_app (goodIn_of _ (by decide +kernel)) ggX2_runLine_X3_begin
set_option maxRecDepth 20000 in
theorem ggX2_runLine_X7_passesOn : GoodIn wsX2_runLine wsX7_passesOn := goodIn_r _ [24] (by decide +kernel) (by decide +kernel)
set_option maxRecDepth 20000 in
theorem gX2_runLine_X7_passesOn_n208 : GoodIn wsX2_runLine (wsX7_passesOn) := ggX2_runLine_X7_passesOn
set_option maxRecDepth 20000 in
theorem ggX2_runLine_X2_lastDay : GoodIn wsX2_runLine wsX2_lastDay := goodIn_r _ [29, 8, 62, 63, 64, 65, 66, 67, 68, 69, 70, 71, 72, 73, 74, 75, 76, 77] (by decide +kernel) (by decide +kernel)
set_option maxRecDepth 20000 in
theorem gX2_runLine_X2_lastDay : GoodIn wsX2_runLine (wsV RX2 185 RX2 yX2_lastDay wsX2_lastDay) := goodIn_app (goodIn_of _ (by decide +kernel)) ggX2_runLine_X2_lastDay
set_option maxRecDepth 20000 in
theorem ggX2_runLine_X0_holdsFor : GoodIn wsX2_runLine wsX0_holdsFor := goodIn_r _ [34, 35, 36, 37, 78, 79, 80, 81, 82, 83, 84, 85, 86] (by decide +kernel) (by decide +kernel)
set_option maxRecDepth 20000 in
theorem gX2_runLine_X0_holdsFor : GoodIn wsX2_runLine (wsV RX2 212 RX0 yX0_holdsFor wsX0_holdsFor) := goodIn_app (goodIn_of _ (by decide +kernel)) ggX2_runLine_X0_holdsFor
set_option maxRecDepth 20000 in
theorem ggX2_runLine_X2_takenBy : GoodIn wsX2_runLine wsX2_takenBy := goodIn_r _ [41, 2, 42, 4, 43, 44, 6, 45, 46, 47, 48, 49, 5, 50, 51, 52, 53, 62, 63, 64, 65, 66, 67, 68, 69, 70, 71, 72, 73, 74, 75, 76, 77, 78, 79, 80, 81, 82, 83, 84, 85, 86] (by decide +kernel) (by decide +kernel)
set_option maxRecDepth 20000 in
theorem gX2_runLine_X2_takenBy : GoodIn wsX2_runLine (wsV RX2 216 RX2 yX2_takenBy wsX2_takenBy) := goodIn_app (goodIn_of _ (by decide +kernel)) ggX2_runLine_X2_takenBy
set_option maxRecDepth 20000 in
theorem ggX2_runLine_X2_runLine : GoodIn wsX2_runLine wsX2_runLine := goodIn_r _ [0, 1, 2, 3, 4, 5, 6, 7, 8, 9, 10, 11, 12, 13, 14, 15, 16, 17, 18, 19, 20, 21, 22, 23, 24, 25, 26, 27, 28, 29, 30, 31, 32, 33, 34, 35, 36, 37, 38, 39, 40, 41, 42, 43, 44, 45, 46, 47, 48, 49, 50, 51, 52, 53, 54, 55, 56, 57, 58, 59, 60, 61, 62, 63, 64, 65, 66, 67, 68, 69, 70, 71, 72, 73, 74, 75, 76, 77, 78, 79, 80, 81, 82, 83, 84, 85, 86, 87, 88, 89, 90, 91, 92, 93] (by decide +kernel) (by decide +kernel)
set_option maxRecDepth 20000 in
theorem gX2_runLine_X2_runLine : GoodIn wsX2_runLine (wsV RX2 200 RX2 yX2_runLine wsX2_runLine) := goodIn_app (goodIn_of _ (by decide +kernel)) ggX2_runLine_X2_runLine
set_option maxRecDepth 20000 in
theorem ggX2_runLine_X3_end : GoodIn wsX2_runLine wsX3_end := goodIn_r _ [60, 17, 61, 87, 88, 89, 90, 91, 92, 93] (by decide +kernel) (by decide +kernel)
set_option maxRecDepth 20000 in
theorem gX2_runLine_X3_end : GoodIn wsX2_runLine (wsV RX2 223 RX3 yX3_end wsX3_end) := goodIn_app (goodIn_of _ (by decide +kernel)) ggX2_runLine_X3_end
theorem dX2_runLine_0 : decode cX2_runLine 0 = .ok (.aload_n 0, 1) := by decide +kernel
theorem dX2_runLine_1 : decode cX2_runLine 1 = .ok (.getfield 61, 3) := by decide +kernel
theorem dX2_runLine_4 : decode cX2_runLine 4 = .ok (.iload_n 1, 1) := by decide +kernel
theorem dX2_runLine_5 : decode cX2_runLine 5 = .ok (.iload_n 2, 1) := by decide +kernel
theorem dX2_runLine_6 : decode cX2_runLine 6 = .ok (.iload_n 3, 1) := by decide +kernel
theorem dX2_runLine_7 : decode cX2_runLine 7 = .ok (.lload 5, 2) := by decide +kernel
theorem dX2_runLine_9 : decode cX2_runLine 9 = .ok (.invokevirtual 204, 3) := by decide +kernel
theorem dX2_runLine_12 : decode cX2_runLine 12 = .ok (.istore 7, 2) := by decide +kernel
theorem dX2_runLine_14 : decode cX2_runLine 14 = .ok (.lload 5, 2) := by decide +kernel
theorem dX2_runLine_16 : decode cX2_runLine 16 = .ok (.lstore 8, 2) := by decide +kernel
theorem dX2_runLine_18 : decode cX2_runLine 18 = .ok (.iload_n 3, 1) := by decide +kernel
theorem dX2_runLine_19 : decode cX2_runLine 19 = .ok (.iconst 1, 1) := by decide +kernel
theorem dX2_runLine_20 : decode cX2_runLine 20 = .ok (.iadd, 1) := by decide +kernel
theorem dX2_runLine_21 : decode cX2_runLine 21 = .ok (.istore 10, 2) := by decide +kernel
theorem dX2_runLine_23 : decode cX2_runLine 23 = .ok (.iload 10, 2) := by decide +kernel
theorem dX2_runLine_25 : decode cX2_runLine 25 = .ok (.aload_n 0, 1) := by decide +kernel
theorem dX2_runLine_26 : decode cX2_runLine 26 = .ok (.getfield 45, 3) := by decide +kernel
theorem dX2_runLine_29 : decode cX2_runLine 29 = .ok (.getfield 142, 3) := by decide +kernel
theorem dX2_runLine_32 : decode cX2_runLine 32 = .ok (.if_icmp .ge 185, 3) := by decide +kernel
theorem dX2_runLine_35 : decode cX2_runLine 35 = .ok (.lload 8, 2) := by decide +kernel
theorem dX2_runLine_37 : decode cX2_runLine 37 = .ok (.lconst 0, 1) := by decide +kernel
theorem dX2_runLine_38 : decode cX2_runLine 38 = .ok (.lcmp, 1) := by decide +kernel
theorem dX2_runLine_39 : decode cX2_runLine 39 = .ok (.ifCond .le 178, 3) := by decide +kernel
theorem dX2_runLine_42 : decode cX2_runLine 42 = .ok (.aload_n 0, 1) := by decide +kernel
theorem dX2_runLine_43 : decode cX2_runLine 43 = .ok (.getfield 45, 3) := by decide +kernel
theorem dX2_runLine_46 : decode cX2_runLine 46 = .ok (.getfield 116, 3) := by decide +kernel
theorem dX2_runLine_49 : decode cX2_runLine 49 = .ok (.iload 10, 2) := by decide +kernel
theorem dX2_runLine_51 : decode cX2_runLine 51 = .ok (.iaload, 1) := by decide +kernel
theorem dX2_runLine_52 : decode cX2_runLine 52 = .ok (.invokestatic 208, 3) := by decide +kernel
theorem dX2_runLine_55 : decode cX2_runLine 55 = .ok (.istore 11, 2) := by decide +kernel
theorem dX2_runLine_57 : decode cX2_runLine 57 = .ok (.iload 11, 2) := by decide +kernel
theorem dX2_runLine_59 : decode cX2_runLine 59 = .ok (.ifCond .eq 13, 3) := by decide +kernel
theorem dX2_runLine_62 : decode cX2_runLine 62 = .ok (.iload 4, 2) := by decide +kernel
theorem dX2_runLine_64 : decode cX2_runLine 64 = .ok (.iconst 2, 1) := by decide +kernel
theorem dX2_runLine_65 : decode cX2_runLine 65 = .ok (.if_icmp .lt 7, 3) := by decide +kernel
theorem dX2_runLine_68 : decode cX2_runLine 68 = .ok (.iconst 1, 1) := by decide +kernel
theorem dX2_runLine_69 : decode cX2_runLine 69 = .ok (.goto 4, 3) := by decide +kernel
theorem dX2_runLine_72 : decode cX2_runLine 72 = .ok (.iconst 0, 1) := by decide +kernel
theorem dX2_runLine_73 : decode cX2_runLine 73 = .ok (.istore 12, 2) := by decide +kernel
theorem dX2_runLine_75 : decode cX2_runLine 75 = .ok (.iload 12, 2) := by decide +kernel
theorem dX2_runLine_77 : decode cX2_runLine 77 = .ok (.ifCond .ne 134, 3) := by decide +kernel
theorem dX2_runLine_80 : decode cX2_runLine 80 = .ok (.aload_n 0, 1) := by decide +kernel
theorem dX2_runLine_81 : decode cX2_runLine 81 = .ok (.getfield 45, 3) := by decide +kernel
theorem dX2_runLine_84 : decode cX2_runLine 84 = .ok (.iload 10, 2) := by decide +kernel
theorem dX2_runLine_86 : decode cX2_runLine 86 = .ok (.iload_n 2, 1) := by decide +kernel
theorem dX2_runLine_87 : decode cX2_runLine 87 = .ok (.iload_n 1, 1) := by decide +kernel
theorem dX2_runLine_88 : decode cX2_runLine 88 = .ok (.aload_n 0, 1) := by decide +kernel
theorem dX2_runLine_89 : decode cX2_runLine 89 = .ok (.invokevirtual 185, 3) := by decide +kernel
theorem dX2_runLine_92 : decode cX2_runLine 92 = .ok (.invokevirtual 212, 3) := by decide +kernel
theorem dX2_runLine_95 : decode cX2_runLine 95 = .ok (.ifCond .ne 6, 3) := by decide +kernel
theorem dX2_runLine_98 : decode cX2_runLine 98 = .ok (.goto 113, 3) := by decide +kernel
theorem dX2_runLine_101 : decode cX2_runLine 101 = .ok (.aload_n 0, 1) := by decide +kernel
theorem dX2_runLine_102 : decode cX2_runLine 102 = .ok (.iload 10, 2) := by decide +kernel
theorem dX2_runLine_104 : decode cX2_runLine 104 = .ok (.lload 8, 2) := by decide +kernel
theorem dX2_runLine_106 : decode cX2_runLine 106 = .ok (.invokevirtual 216, 3) := by decide +kernel
theorem dX2_runLine_109 : decode cX2_runLine 109 = .ok (.lstore 13, 2) := by decide +kernel
theorem dX2_runLine_111 : decode cX2_runLine 111 = .ok (.aload_n 0, 1) := by decide +kernel
theorem dX2_runLine_112 : decode cX2_runLine 112 = .ok (.getfield 28, 3) := by decide +kernel
theorem dX2_runLine_115 : decode cX2_runLine 115 = .ok (.iload 10, 2) := by decide +kernel
theorem dX2_runLine_117 : decode cX2_runLine 117 = .ok (.dup2, 1) := by decide +kernel
theorem dX2_runLine_118 : decode cX2_runLine 118 = .ok (.laload, 1) := by decide +kernel
theorem dX2_runLine_119 : decode cX2_runLine 119 = .ok (.lload 8, 2) := by decide +kernel
theorem dX2_runLine_121 : decode cX2_runLine 121 = .ok (.ladd, 1) := by decide +kernel
theorem dX2_runLine_122 : decode cX2_runLine 122 = .ok (.lastore, 1) := by decide +kernel
theorem dX2_runLine_123 : decode cX2_runLine 123 = .ok (.aload_n 0, 1) := by decide +kernel
theorem dX2_runLine_124 : decode cX2_runLine 124 = .ok (.getfield 25, 3) := by decide +kernel
theorem dX2_runLine_127 : decode cX2_runLine 127 = .ok (.iload 10, 2) := by decide +kernel
theorem dX2_runLine_129 : decode cX2_runLine 129 = .ok (.dup2, 1) := by decide +kernel
theorem dX2_runLine_130 : decode cX2_runLine 130 = .ok (.laload, 1) := by decide +kernel
theorem dX2_runLine_131 : decode cX2_runLine 131 = .ok (.lload 13, 2) := by decide +kernel
theorem dX2_runLine_133 : decode cX2_runLine 133 = .ok (.ladd, 1) := by decide +kernel
theorem dX2_runLine_134 : decode cX2_runLine 134 = .ok (.lastore, 1) := by decide +kernel
theorem dX2_runLine_135 : decode cX2_runLine 135 = .ok (.lload 8, 2) := by decide +kernel
theorem dX2_runLine_137 : decode cX2_runLine 137 = .ok (.lload 13, 2) := by decide +kernel
theorem dX2_runLine_139 : decode cX2_runLine 139 = .ok (.lsub, 1) := by decide +kernel
theorem dX2_runLine_140 : decode cX2_runLine 140 = .ok (.lstore 8, 2) := by decide +kernel
theorem dX2_runLine_142 : decode cX2_runLine 142 = .ok (.aload_n 0, 1) := by decide +kernel
theorem dX2_runLine_143 : decode cX2_runLine 143 = .ok (.getfield 45, 3) := by decide +kernel
theorem dX2_runLine_146 : decode cX2_runLine 146 = .ok (.getfield 116, 3) := by decide +kernel
theorem dX2_runLine_149 : decode cX2_runLine 149 = .ok (.iload 10, 2) := by decide +kernel
theorem dX2_runLine_151 : decode cX2_runLine 151 = .ok (.iaload, 1) := by decide +kernel
theorem dX2_runLine_152 : decode cX2_runLine 152 = .ok (.iconst 4, 1) := by decide +kernel
theorem dX2_runLine_153 : decode cX2_runLine 153 = .ok (.if_icmp .ne 23, 3) := by decide +kernel
theorem dX2_runLine_156 : decode cX2_runLine 156 = .ok (.aload_n 0, 1) := by decide +kernel
theorem dX2_runLine_157 : decode cX2_runLine 157 = .ok (.getfield 31, 3) := by decide +kernel
theorem dX2_runLine_160 : decode cX2_runLine 160 = .ok (.iload 10, 2) := by decide +kernel
theorem dX2_runLine_162 : decode cX2_runLine 162 = .ok (.bipush 40, 2) := by decide +kernel
theorem dX2_runLine_164 : decode cX2_runLine 164 = .ok (.imul, 1) := by decide +kernel
theorem dX2_runLine_165 : decode cX2_runLine 165 = .ok (.aload_n 0, 1) := by decide +kernel
theorem dX2_runLine_166 : decode cX2_runLine 166 = .ok (.getfield 78, 3) := by decide +kernel
theorem dX2_runLine_169 : decode cX2_runLine 169 = .ok (.iadd, 1) := by decide +kernel
theorem dX2_runLine_170 : decode cX2_runLine 170 = .ok (.dup2, 1) := by decide +kernel
theorem dX2_runLine_171 : decode cX2_runLine 171 = .ok (.laload, 1) := by decide +kernel
theorem dX2_runLine_172 : decode cX2_runLine 172 = .ok (.lload 13, 2) := by decide +kernel
theorem dX2_runLine_174 : decode cX2_runLine 174 = .ok (.ladd, 1) := by decide +kernel
theorem dX2_runLine_175 : decode cX2_runLine 175 = .ok (.lastore, 1) := by decide +kernel
theorem dX2_runLine_176 : decode cX2_runLine 176 = .ok (.iload 11, 2) := by decide +kernel
theorem dX2_runLine_178 : decode cX2_runLine 178 = .ok (.ifCond .eq 33, 3) := by decide +kernel
theorem dX2_runLine_181 : decode cX2_runLine 181 = .ok (.lload 13, 2) := by decide +kernel
theorem dX2_runLine_183 : decode cX2_runLine 183 = .ok (.lconst 0, 1) := by decide +kernel
theorem dX2_runLine_184 : decode cX2_runLine 184 = .ok (.lcmp, 1) := by decide +kernel
theorem dX2_runLine_185 : decode cX2_runLine 185 = .ok (.ifCond .le 26, 3) := by decide +kernel
theorem dX2_runLine_188 : decode cX2_runLine 188 = .ok (.aload_n 0, 1) := by decide +kernel
theorem dX2_runLine_189 : decode cX2_runLine 189 = .ok (.iload_n 1, 1) := by decide +kernel
theorem dX2_runLine_190 : decode cX2_runLine 190 = .ok (.aload_n 0, 1) := by decide +kernel
theorem dX2_runLine_191 : decode cX2_runLine 191 = .ok (.getfield 45, 3) := by decide +kernel
theorem dX2_runLine_194 : decode cX2_runLine 194 = .ok (.getfield 220, 3) := by decide +kernel
theorem dX2_runLine_197 : decode cX2_runLine 197 = .ok (.iload 10, 2) := by decide +kernel
theorem dX2_runLine_199 : decode cX2_runLine 199 = .ok (.iaload, 1) := by decide +kernel
theorem dX2_runLine_200 : decode cX2_runLine 200 = .ok (.iload 10, 2) := by decide +kernel
theorem dX2_runLine_202 : decode cX2_runLine 202 = .ok (.iload 4, 2) := by decide +kernel
theorem dX2_runLine_204 : decode cX2_runLine 204 = .ok (.iconst 1, 1) := by decide +kernel
theorem dX2_runLine_205 : decode cX2_runLine 205 = .ok (.iadd, 1) := by decide +kernel
theorem dX2_runLine_206 : decode cX2_runLine 206 = .ok (.lload 13, 2) := by decide +kernel
theorem dX2_runLine_208 : decode cX2_runLine 208 = .ok (.invokevirtual 200, 3) := by decide +kernel
theorem dX2_runLine_211 : decode cX2_runLine 211 = .ok (.iinc 10 1, 3) := by decide +kernel
theorem dX2_runLine_214 : decode cX2_runLine 214 = .ok (.goto (-191), 3) := by decide +kernel
theorem dX2_runLine_217 : decode cX2_runLine 217 = .ok (.aload_n 0, 1) := by decide +kernel
theorem dX2_runLine_218 : decode cX2_runLine 218 = .ok (.getfield 9, 3) := by decide +kernel
theorem dX2_runLine_221 : decode cX2_runLine 221 = .ok (.iload_n 2, 1) := by decide +kernel
theorem dX2_runLine_222 : decode cX2_runLine 222 = .ok (.dup2, 1) := by decide +kernel
theorem dX2_runLine_223 : decode cX2_runLine 223 = .ok (.laload, 1) := by decide +kernel
theorem dX2_runLine_224 : decode cX2_runLine 224 = .ok (.lload 8, 2) := by decide +kernel
theorem dX2_runLine_226 : decode cX2_runLine 226 = .ok (.ladd, 1) := by decide +kernel
theorem dX2_runLine_227 : decode cX2_runLine 227 = .ok (.lastore, 1) := by decide +kernel
theorem dX2_runLine_228 : decode cX2_runLine 228 = .ok (.aload_n 0, 1) := by decide +kernel
theorem dX2_runLine_229 : decode cX2_runLine 229 = .ok (.getfield 61, 3) := by decide +kernel
theorem dX2_runLine_232 : decode cX2_runLine 232 = .ok (.iload 7, 2) := by decide +kernel
theorem dX2_runLine_234 : decode cX2_runLine 234 = .ok (.lload 8, 2) := by decide +kernel
theorem dX2_runLine_236 : decode cX2_runLine 236 = .ok (.invokevirtual 223, 3) := by decide +kernel
theorem dX2_runLine_239 : decode cX2_runLine 239 = .ok (.return_, 1) := by decide +kernel
theorem dX2_takenBy_0 : decode cX2_takenBy 0 = .ok (.aload_n 0, 1) := by decide +kernel
theorem dX2_takenBy_1 : decode cX2_takenBy 1 = .ok (.getfield 45, 3) := by decide +kernel
theorem dX2_takenBy_4 : decode cX2_takenBy 4 = .ok (.getfield 121, 3) := by decide +kernel
theorem dX2_takenBy_7 : decode cX2_takenBy 7 = .ok (.iload_n 1, 1) := by decide +kernel
theorem dX2_takenBy_8 : decode cX2_takenBy 8 = .ok (.iaload, 1) := by decide +kernel
theorem dX2_takenBy_9 : decode cX2_takenBy 9 = .ok (.i2l, 1) := by decide +kernel
theorem dX2_takenBy_10 : decode cX2_takenBy 10 = .ok (.lstore 4, 2) := by decide +kernel
theorem dX2_takenBy_12 : decode cX2_takenBy 12 = .ok (.aload_n 0, 1) := by decide +kernel
theorem dX2_takenBy_13 : decode cX2_takenBy 13 = .ok (.getfield 45, 3) := by decide +kernel
theorem dX2_takenBy_16 : decode cX2_takenBy 16 = .ok (.getfield 116, 3) := by decide +kernel
theorem dX2_takenBy_19 : decode cX2_takenBy 19 = .ok (.iload_n 1, 1) := by decide +kernel
theorem dX2_takenBy_20 : decode cX2_takenBy 20 = .ok (.iaload, 1) := by decide +kernel
theorem dX2_takenBy_21 : decode cX2_takenBy 21 = .ok (.tableswitch 123 0 4 #[35, 44, 123, 62, 35], 35) := by decide +kernel
theorem dX2_takenBy_56 : decode cX2_takenBy 56 = .ok (.lload_n 2, 1) := by decide +kernel
theorem dX2_takenBy_57 : decode cX2_takenBy 57 = .ok (.lload 4, 2) := by decide +kernel
theorem dX2_takenBy_59 : decode cX2_takenBy 59 = .ok (.lmul, 1) := by decide +kernel
theorem dX2_takenBy_60 : decode cX2_takenBy 60 = .ok (.ldc2_w 197, 3) := by decide +kernel
theorem dX2_takenBy_63 : decode cX2_takenBy 63 = .ok (.ldiv, 1) := by decide +kernel
theorem dX2_takenBy_64 : decode cX2_takenBy 64 = .ok (.lreturn, 1) := by decide +kernel
theorem dX2_takenBy_65 : decode cX2_takenBy 65 = .ok (.lload_n 2, 1) := by decide +kernel
theorem dX2_takenBy_66 : decode cX2_takenBy 66 = .ok (.lload 4, 2) := by decide +kernel
theorem dX2_takenBy_68 : decode cX2_takenBy 68 = .ok (.ldc2_w 110, 3) := by decide +kernel
theorem dX2_takenBy_71 : decode cX2_takenBy 71 = .ok (.lmul, 1) := by decide +kernel
theorem dX2_takenBy_72 : decode cX2_takenBy 72 = .ok (.aload_n 0, 1) := by decide +kernel
theorem dX2_takenBy_73 : decode cX2_takenBy 73 = .ok (.getfield 25, 3) := by decide +kernel
theorem dX2_takenBy_76 : decode cX2_takenBy 76 = .ok (.iload_n 1, 1) := by decide +kernel
theorem dX2_takenBy_77 : decode cX2_takenBy 77 = .ok (.laload, 1) := by decide +kernel
theorem dX2_takenBy_78 : decode cX2_takenBy 78 = .ok (.lsub, 1) := by decide +kernel
theorem dX2_takenBy_79 : decode cX2_takenBy 79 = .ok (.invokestatic 147, 3) := by decide +kernel
theorem dX2_takenBy_82 : decode cX2_takenBy 82 = .ok (.lreturn, 1) := by decide +kernel
theorem dX2_takenBy_83 : decode cX2_takenBy 83 = .ok (.lload_n 2, 1) := by decide +kernel
theorem dX2_takenBy_84 : decode cX2_takenBy 84 = .ok (.lconst 0, 1) := by decide +kernel
theorem dX2_takenBy_85 : decode cX2_takenBy 85 = .ok (.aload_n 0, 1) := by decide +kernel
theorem dX2_takenBy_86 : decode cX2_takenBy 86 = .ok (.getfield 45, 3) := by decide +kernel
theorem dX2_takenBy_89 : decode cX2_takenBy 89 = .ok (.getfield 226, 3) := by decide +kernel
theorem dX2_takenBy_92 : decode cX2_takenBy 92 = .ok (.iload_n 1, 1) := by decide +kernel
theorem dX2_takenBy_93 : decode cX2_takenBy 93 = .ok (.iaload, 1) := by decide +kernel
theorem dX2_takenBy_94 : decode cX2_takenBy 94 = .ok (.i2l, 1) := by decide +kernel
theorem dX2_takenBy_95 : decode cX2_takenBy 95 = .ok (.ldc2_w 110, 3) := by decide +kernel
theorem dX2_takenBy_98 : decode cX2_takenBy 98 = .ok (.lmul, 1) := by decide +kernel
theorem dX2_takenBy_99 : decode cX2_takenBy 99 = .ok (.aload_n 0, 1) := by decide +kernel
theorem dX2_takenBy_100 : decode cX2_takenBy 100 = .ok (.getfield 28, 3) := by decide +kernel
theorem dX2_takenBy_103 : decode cX2_takenBy 103 = .ok (.iload_n 1, 1) := by decide +kernel
theorem dX2_takenBy_104 : decode cX2_takenBy 104 = .ok (.laload, 1) := by decide +kernel
theorem dX2_takenBy_105 : decode cX2_takenBy 105 = .ok (.lsub, 1) := by decide +kernel
theorem dX2_takenBy_106 : decode cX2_takenBy 106 = .ok (.invokestatic 229, 3) := by decide +kernel
theorem dX2_takenBy_109 : decode cX2_takenBy 109 = .ok (.invokestatic 147, 3) := by decide +kernel
theorem dX2_takenBy_112 : decode cX2_takenBy 112 = .ok (.lstore 6, 2) := by decide +kernel
theorem dX2_takenBy_114 : decode cX2_takenBy 114 = .ok (.lload 6, 2) := by decide +kernel
theorem dX2_takenBy_116 : decode cX2_takenBy 116 = .ok (.lload 4, 2) := by decide +kernel
theorem dX2_takenBy_118 : decode cX2_takenBy 118 = .ok (.lmul, 1) := by decide +kernel
theorem dX2_takenBy_119 : decode cX2_takenBy 119 = .ok (.ldc2_w 197, 3) := by decide +kernel
theorem dX2_takenBy_122 : decode cX2_takenBy 122 = .ok (.ldiv, 1) := by decide +kernel
theorem dX2_takenBy_123 : decode cX2_takenBy 123 = .ok (.lload_n 2, 1) := by decide +kernel
theorem dX2_takenBy_124 : decode cX2_takenBy 124 = .ok (.lload 6, 2) := by decide +kernel
theorem dX2_takenBy_126 : decode cX2_takenBy 126 = .ok (.lsub, 1) := by decide +kernel
theorem dX2_takenBy_127 : decode cX2_takenBy 127 = .ok (.aload_n 0, 1) := by decide +kernel
theorem dX2_takenBy_128 : decode cX2_takenBy 128 = .ok (.getfield 45, 3) := by decide +kernel
theorem dX2_takenBy_131 : decode cX2_takenBy 131 = .ok (.getfield 232, 3) := by decide +kernel
theorem dX2_takenBy_134 : decode cX2_takenBy 134 = .ok (.iload_n 1, 1) := by decide +kernel
theorem dX2_takenBy_135 : decode cX2_takenBy 135 = .ok (.iaload, 1) := by decide +kernel
theorem dX2_takenBy_136 : decode cX2_takenBy 136 = .ok (.i2l, 1) := by decide +kernel
theorem dX2_takenBy_137 : decode cX2_takenBy 137 = .ok (.lmul, 1) := by decide +kernel
theorem dX2_takenBy_138 : decode cX2_takenBy 138 = .ok (.ldc2_w 197, 3) := by decide +kernel
theorem dX2_takenBy_141 : decode cX2_takenBy 141 = .ok (.ldiv, 1) := by decide +kernel
theorem dX2_takenBy_142 : decode cX2_takenBy 142 = .ok (.ladd, 1) := by decide +kernel
theorem dX2_takenBy_143 : decode cX2_takenBy 143 = .ok (.lreturn, 1) := by decide +kernel
theorem dX2_takenBy_144 : decode cX2_takenBy 144 = .ok (.lconst 0, 1) := by decide +kernel
theorem dX2_takenBy_145 : decode cX2_takenBy 145 = .ok (.lreturn, 1) := by decide +kernel
theorem dX2_emptyOldBags_0 : decode cX2_emptyOldBags 0 = .ok (.iconst 0, 1) := by decide +kernel
theorem dX2_emptyOldBags_1 : decode cX2_emptyOldBags 1 = .ok (.istore_n 1, 1) := by decide +kernel
theorem dX2_emptyOldBags_2 : decode cX2_emptyOldBags 2 = .ok (.iload_n 1, 1) := by decide +kernel
theorem dX2_emptyOldBags_3 : decode cX2_emptyOldBags 3 = .ok (.aload_n 0, 1) := by decide +kernel
theorem dX2_emptyOldBags_4 : decode cX2_emptyOldBags 4 = .ok (.getfield 45, 3) := by decide +kernel
theorem dX2_emptyOldBags_7 : decode cX2_emptyOldBags 7 = .ok (.getfield 142, 3) := by decide +kernel
theorem dX2_emptyOldBags_10 : decode cX2_emptyOldBags 10 = .ok (.if_icmp .ge 88, 3) := by decide +kernel
theorem dX2_emptyOldBags_13 : decode cX2_emptyOldBags 13 = .ok (.aload_n 0, 1) := by decide +kernel
theorem dX2_emptyOldBags_14 : decode cX2_emptyOldBags 14 = .ok (.getfield 45, 3) := by decide +kernel
theorem dX2_emptyOldBags_17 : decode cX2_emptyOldBags 17 = .ok (.getfield 116, 3) := by decide +kernel
theorem dX2_emptyOldBags_20 : decode cX2_emptyOldBags 20 = .ok (.iload_n 1, 1) := by decide +kernel
theorem dX2_emptyOldBags_21 : decode cX2_emptyOldBags 21 = .ok (.iaload, 1) := by decide +kernel
theorem dX2_emptyOldBags_22 : decode cX2_emptyOldBags 22 = .ok (.iconst 4, 1) := by decide +kernel
theorem dX2_emptyOldBags_23 : decode cX2_emptyOldBags 23 = .ok (.if_icmp .ne 69, 3) := by decide +kernel
theorem dX2_emptyOldBags_26 : decode cX2_emptyOldBags 26 = .ok (.aload_n 0, 1) := by decide +kernel
theorem dX2_emptyOldBags_27 : decode cX2_emptyOldBags 27 = .ok (.getfield 78, 3) := by decide +kernel
theorem dX2_emptyOldBags_30 : decode cX2_emptyOldBags 30 = .ok (.aload_n 0, 1) := by decide +kernel
theorem dX2_emptyOldBags_31 : decode cX2_emptyOldBags 31 = .ok (.getfield 45, 3) := by decide +kernel
theorem dX2_emptyOldBags_34 : decode cX2_emptyOldBags 34 = .ok (.getfield 226, 3) := by decide +kernel
theorem dX2_emptyOldBags_37 : decode cX2_emptyOldBags 37 = .ok (.iload_n 1, 1) := by decide +kernel
theorem dX2_emptyOldBags_38 : decode cX2_emptyOldBags 38 = .ok (.iaload, 1) := by decide +kernel
theorem dX2_emptyOldBags_39 : decode cX2_emptyOldBags 39 = .ok (.if_icmp .lt 53, 3) := by decide +kernel
theorem dX2_emptyOldBags_42 : decode cX2_emptyOldBags 42 = .ok (.iload_n 1, 1) := by decide +kernel
theorem dX2_emptyOldBags_43 : decode cX2_emptyOldBags 43 = .ok (.bipush 40, 2) := by decide +kernel
theorem dX2_emptyOldBags_45 : decode cX2_emptyOldBags 45 = .ok (.imul, 1) := by decide +kernel
theorem dX2_emptyOldBags_46 : decode cX2_emptyOldBags 46 = .ok (.aload_n 0, 1) := by decide +kernel
theorem dX2_emptyOldBags_47 : decode cX2_emptyOldBags 47 = .ok (.getfield 78, 3) := by decide +kernel
theorem dX2_emptyOldBags_50 : decode cX2_emptyOldBags 50 = .ok (.iadd, 1) := by decide +kernel
theorem dX2_emptyOldBags_51 : decode cX2_emptyOldBags 51 = .ok (.aload_n 0, 1) := by decide +kernel
theorem dX2_emptyOldBags_52 : decode cX2_emptyOldBags 52 = .ok (.getfield 45, 3) := by decide +kernel
theorem dX2_emptyOldBags_55 : decode cX2_emptyOldBags 55 = .ok (.getfield 226, 3) := by decide +kernel
theorem dX2_emptyOldBags_58 : decode cX2_emptyOldBags 58 = .ok (.iload_n 1, 1) := by decide +kernel
theorem dX2_emptyOldBags_59 : decode cX2_emptyOldBags 59 = .ok (.iaload, 1) := by decide +kernel
theorem dX2_emptyOldBags_60 : decode cX2_emptyOldBags 60 = .ok (.isub, 1) := by decide +kernel
theorem dX2_emptyOldBags_61 : decode cX2_emptyOldBags 61 = .ok (.istore_n 2, 1) := by decide +kernel
theorem dX2_emptyOldBags_62 : decode cX2_emptyOldBags 62 = .ok (.aload_n 0, 1) := by decide +kernel
theorem dX2_emptyOldBags_63 : decode cX2_emptyOldBags 63 = .ok (.getfield 9, 3) := by decide +kernel
theorem dX2_emptyOldBags_66 : decode cX2_emptyOldBags 66 = .ok (.aload_n 0, 1) := by decide +kernel
theorem dX2_emptyOldBags_67 : decode cX2_emptyOldBags 67 = .ok (.getfield 45, 3) := by decide +kernel
theorem dX2_emptyOldBags_70 : decode cX2_emptyOldBags 70 = .ok (.getfield 235, 3) := by decide +kernel
theorem dX2_emptyOldBags_73 : decode cX2_emptyOldBags 73 = .ok (.iload_n 1, 1) := by decide +kernel
theorem dX2_emptyOldBags_74 : decode cX2_emptyOldBags 74 = .ok (.iaload, 1) := by decide +kernel
theorem dX2_emptyOldBags_75 : decode cX2_emptyOldBags 75 = .ok (.dup2, 1) := by decide +kernel
theorem dX2_emptyOldBags_76 : decode cX2_emptyOldBags 76 = .ok (.laload, 1) := by decide +kernel
theorem dX2_emptyOldBags_77 : decode cX2_emptyOldBags 77 = .ok (.aload_n 0, 1) := by decide +kernel
theorem dX2_emptyOldBags_78 : decode cX2_emptyOldBags 78 = .ok (.getfield 31, 3) := by decide +kernel
theorem dX2_emptyOldBags_81 : decode cX2_emptyOldBags 81 = .ok (.iload_n 2, 1) := by decide +kernel
theorem dX2_emptyOldBags_82 : decode cX2_emptyOldBags 82 = .ok (.laload, 1) := by decide +kernel
theorem dX2_emptyOldBags_83 : decode cX2_emptyOldBags 83 = .ok (.ladd, 1) := by decide +kernel
theorem dX2_emptyOldBags_84 : decode cX2_emptyOldBags 84 = .ok (.lastore, 1) := by decide +kernel
theorem dX2_emptyOldBags_85 : decode cX2_emptyOldBags 85 = .ok (.aload_n 0, 1) := by decide +kernel
theorem dX2_emptyOldBags_86 : decode cX2_emptyOldBags 86 = .ok (.getfield 31, 3) := by decide +kernel
theorem dX2_emptyOldBags_89 : decode cX2_emptyOldBags 89 = .ok (.iload_n 2, 1) := by decide +kernel
theorem dX2_emptyOldBags_90 : decode cX2_emptyOldBags 90 = .ok (.lconst 0, 1) := by decide +kernel
theorem dX2_emptyOldBags_91 : decode cX2_emptyOldBags 91 = .ok (.lastore, 1) := by decide +kernel
theorem dX2_emptyOldBags_92 : decode cX2_emptyOldBags 92 = .ok (.iinc 1 1, 3) := by decide +kernel
theorem dX2_emptyOldBags_95 : decode cX2_emptyOldBags 95 = .ok (.goto (-93), 3) := by decide +kernel
theorem dX2_emptyOldBags_98 : decode cX2_emptyOldBags 98 = .ok (.return_, 1) := by decide +kernel
theorem dX2_payHands_0 : decode cX2_payHands 0 = .ok (.iconst 0, 1) := by decide +kernel
theorem dX2_payHands_1 : decode cX2_payHands 1 = .ok (.istore_n 1, 1) := by decide +kernel
theorem dX2_payHands_2 : decode cX2_payHands 2 = .ok (.iload_n 1, 1) := by decide +kernel
theorem dX2_payHands_3 : decode cX2_payHands 3 = .ok (.bipush 12, 2) := by decide +kernel
theorem dX2_payHands_5 : decode cX2_payHands 5 = .ok (.if_icmp .ge 112, 3) := by decide +kernel
theorem dX2_payHands_8 : decode cX2_payHands 8 = .ok (.aload_n 0, 1) := by decide +kernel
theorem dX2_payHands_9 : decode cX2_payHands 9 = .ok (.getfield 15, 3) := by decide +kernel
theorem dX2_payHands_12 : decode cX2_payHands 12 = .ok (.iload_n 1, 1) := by decide +kernel
theorem dX2_payHands_13 : decode cX2_payHands 13 = .ok (.laload, 1) := by decide +kernel
theorem dX2_payHands_14 : decode cX2_payHands 14 = .ok (.lconst 0, 1) := by decide +kernel
theorem dX2_payHands_15 : decode cX2_payHands 15 = .ok (.lcmp, 1) := by decide +kernel
theorem dX2_payHands_16 : decode cX2_payHands 16 = .ok (.ifCond .le 50, 3) := by decide +kernel
theorem dX2_payHands_19 : decode cX2_payHands 19 = .ok (.aload_n 0, 1) := by decide +kernel
theorem dX2_payHands_20 : decode cX2_payHands 20 = .ok (.getfield 9, 3) := by decide +kernel
theorem dX2_payHands_23 : decode cX2_payHands 23 = .ok (.iload_n 1, 1) := by decide +kernel
theorem dX2_payHands_24 : decode cX2_payHands 24 = .ok (.laload, 1) := by decide +kernel
theorem dX2_payHands_25 : decode cX2_payHands 25 = .ok (.lconst 0, 1) := by decide +kernel
theorem dX2_payHands_26 : decode cX2_payHands 26 = .ok (.lcmp, 1) := by decide +kernel
theorem dX2_payHands_27 : decode cX2_payHands 27 = .ok (.ifCond .le 39, 3) := by decide +kernel
theorem dX2_payHands_30 : decode cX2_payHands 30 = .ok (.aload_n 0, 1) := by decide +kernel
theorem dX2_payHands_31 : decode cX2_payHands 31 = .ok (.getfield 15, 3) := by decide +kernel
theorem dX2_payHands_34 : decode cX2_payHands 34 = .ok (.iload_n 1, 1) := by decide +kernel
theorem dX2_payHands_35 : decode cX2_payHands 35 = .ok (.laload, 1) := by decide +kernel
theorem dX2_payHands_36 : decode cX2_payHands 36 = .ok (.aload_n 0, 1) := by decide +kernel
theorem dX2_payHands_37 : decode cX2_payHands 37 = .ok (.getfield 9, 3) := by decide +kernel
theorem dX2_payHands_40 : decode cX2_payHands 40 = .ok (.iload_n 1, 1) := by decide +kernel
theorem dX2_payHands_41 : decode cX2_payHands 41 = .ok (.laload, 1) := by decide +kernel
theorem dX2_payHands_42 : decode cX2_payHands 42 = .ok (.invokestatic 147, 3) := by decide +kernel
theorem dX2_payHands_45 : decode cX2_payHands 45 = .ok (.lstore_n 2, 1) := by decide +kernel
theorem dX2_payHands_46 : decode cX2_payHands 46 = .ok (.aload_n 0, 1) := by decide +kernel
theorem dX2_payHands_47 : decode cX2_payHands 47 = .ok (.getfield 9, 3) := by decide +kernel
theorem dX2_payHands_50 : decode cX2_payHands 50 = .ok (.iload_n 1, 1) := by decide +kernel
theorem dX2_payHands_51 : decode cX2_payHands 51 = .ok (.dup2, 1) := by decide +kernel
theorem dX2_payHands_52 : decode cX2_payHands 52 = .ok (.laload, 1) := by decide +kernel
theorem dX2_payHands_53 : decode cX2_payHands 53 = .ok (.lload_n 2, 1) := by decide +kernel
theorem dX2_payHands_54 : decode cX2_payHands 54 = .ok (.lsub, 1) := by decide +kernel
theorem dX2_payHands_55 : decode cX2_payHands 55 = .ok (.lastore, 1) := by decide +kernel
theorem dX2_payHands_56 : decode cX2_payHands 56 = .ok (.aload_n 0, 1) := by decide +kernel
theorem dX2_payHands_57 : decode cX2_payHands 57 = .ok (.getfield 15, 3) := by decide +kernel
theorem dX2_payHands_60 : decode cX2_payHands 60 = .ok (.iload_n 1, 1) := by decide +kernel
theorem dX2_payHands_61 : decode cX2_payHands 61 = .ok (.dup2, 1) := by decide +kernel
theorem dX2_payHands_62 : decode cX2_payHands 62 = .ok (.laload, 1) := by decide +kernel
theorem dX2_payHands_63 : decode cX2_payHands 63 = .ok (.lload_n 2, 1) := by decide +kernel
theorem dX2_payHands_64 : decode cX2_payHands 64 = .ok (.lsub, 1) := by decide +kernel
theorem dX2_payHands_65 : decode cX2_payHands 65 = .ok (.lastore, 1) := by decide +kernel
theorem dX2_payHands_66 : decode cX2_payHands 66 = .ok (.lconst 0, 1) := by decide +kernel
theorem dX2_payHands_67 : decode cX2_payHands 67 = .ok (.aload_n 0, 1) := by decide +kernel
theorem dX2_payHands_68 : decode cX2_payHands 68 = .ok (.getfield 9, 3) := by decide +kernel
theorem dX2_payHands_71 : decode cX2_payHands 71 = .ok (.iload_n 1, 1) := by decide +kernel
theorem dX2_payHands_72 : decode cX2_payHands 72 = .ok (.laload, 1) := by decide +kernel
theorem dX2_payHands_73 : decode cX2_payHands 73 = .ok (.ldc2_w 110, 3) := by decide +kernel
theorem dX2_payHands_76 : decode cX2_payHands 76 = .ok (.ldiv, 1) := by decide +kernel
theorem dX2_payHands_77 : decode cX2_payHands 77 = .ok (.invokestatic 229, 3) := by decide +kernel
theorem dX2_payHands_80 : decode cX2_payHands 80 = .ok (.lstore_n 2, 1) := by decide +kernel
theorem dX2_payHands_81 : decode cX2_payHands 81 = .ok (.aload_n 0, 1) := by decide +kernel
theorem dX2_payHands_82 : decode cX2_payHands 82 = .ok (.getfield 9, 3) := by decide +kernel
theorem dX2_payHands_85 : decode cX2_payHands 85 = .ok (.iload_n 1, 1) := by decide +kernel
theorem dX2_payHands_86 : decode cX2_payHands 86 = .ok (.dup2, 1) := by decide +kernel
theorem dX2_payHands_87 : decode cX2_payHands 87 = .ok (.laload, 1) := by decide +kernel
theorem dX2_payHands_88 : decode cX2_payHands 88 = .ok (.lload_n 2, 1) := by decide +kernel
theorem dX2_payHands_89 : decode cX2_payHands 89 = .ok (.ldc2_w 110, 3) := by decide +kernel
theorem dX2_payHands_92 : decode cX2_payHands 92 = .ok (.lmul, 1) := by decide +kernel
theorem dX2_payHands_93 : decode cX2_payHands 93 = .ok (.lsub, 1) := by decide +kernel
theorem dX2_payHands_94 : decode cX2_payHands 94 = .ok (.lastore, 1) := by decide +kernel
theorem dX2_payHands_95 : decode cX2_payHands 95 = .ok (.aload_n 0, 1) := by decide +kernel
theorem dX2_payHands_96 : decode cX2_payHands 96 = .ok (.getfield 21, 3) := by decide +kernel
theorem dX2_payHands_99 : decode cX2_payHands 99 = .ok (.iload_n 1, 1) := by decide +kernel
theorem dX2_payHands_100 : decode cX2_payHands 100 = .ok (.bipush 40, 2) := by decide +kernel
theorem dX2_payHands_102 : decode cX2_payHands 102 = .ok (.imul, 1) := by decide +kernel
theorem dX2_payHands_103 : decode cX2_payHands 103 = .ok (.aload_n 0, 1) := by decide +kernel
theorem dX2_payHands_104 : decode cX2_payHands 104 = .ok (.getfield 78, 3) := by decide +kernel
theorem dX2_payHands_107 : decode cX2_payHands 107 = .ok (.iadd, 1) := by decide +kernel
theorem dX2_payHands_108 : decode cX2_payHands 108 = .ok (.lload_n 2, 1) := by decide +kernel
theorem dX2_payHands_109 : decode cX2_payHands 109 = .ok (.l2i, 1) := by decide +kernel
theorem dX2_payHands_110 : decode cX2_payHands 110 = .ok (.iastore, 1) := by decide +kernel
theorem dX2_payHands_111 : decode cX2_payHands 111 = .ok (.iinc 1 1, 3) := by decide +kernel
theorem dX2_payHands_114 : decode cX2_payHands 114 = .ok (.goto (-112), 3) := by decide +kernel
theorem dX2_payHands_117 : decode cX2_payHands 117 = .ok (.return_, 1) := by decide +kernel
set_option maxRecDepth 20000 in
theorem ggX2_fillFloors_X2_lastDay : GoodIn wsX2_fillFloors wsX2_lastDay := goodIn_r _ [18, 6, 23, 24, 25, 26, 27, 28, 29, 30, 31, 32, 33, 34, 35, 36, 37, 38] (by decide +kernel) (by decide +kernel)
set_option maxRecDepth 20000 in
theorem gX2_fillFloors_X2_lastDay : GoodIn wsX2_fillFloors (wsV RX2 185 RX2 yX2_lastDay wsX2_lastDay) := goodIn_app (goodIn_of _ (by decide +kernel)) ggX2_fillFloors_X2_lastDay
set_option maxRecDepth 20000 in
theorem ggX2_fillFloors_X2_duesOf : GoodIn wsX2_fillFloors wsX2_duesOf := goodIn_r _ [22, 12, 23, 24, 25, 26, 27, 28, 29, 30, 31, 32, 33, 34, 35, 36, 37, 38] (by decide +kernel) (by decide +kernel)
set_option maxRecDepth 20000 in
theorem gX2_fillFloors_X2_duesOf : GoodIn wsX2_fillFloors (wsV RX2 112 RX2 yX2_duesOf wsX2_duesOf) := goodIn_app (goodIn_of _ (by decide +kernel)) ggX2_fillFloors_X2_duesOf
theorem dX2_fillFloors_0 : decode cX2_fillFloors 0 = .ok (.iconst 0, 1) := by decide +kernel
theorem dX2_fillFloors_1 : decode cX2_fillFloors 1 = .ok (.istore_n 1, 1) := by decide +kernel
theorem dX2_fillFloors_2 : decode cX2_fillFloors 2 = .ok (.iload_n 1, 1) := by decide +kernel
theorem dX2_fillFloors_3 : decode cX2_fillFloors 3 = .ok (.aload_n 0, 1) := by decide +kernel
theorem dX2_fillFloors_4 : decode cX2_fillFloors 4 = .ok (.getfield 45, 3) := by decide +kernel
theorem dX2_fillFloors_7 : decode cX2_fillFloors 7 = .ok (.getfield 142, 3) := by decide +kernel
theorem dX2_fillFloors_10 : decode cX2_fillFloors 10 = .ok (.if_icmp .ge 117, 3) := by decide +kernel
theorem dX2_fillFloors_13 : decode cX2_fillFloors 13 = .ok (.aload_n 0, 1) := by decide +kernel
theorem dX2_fillFloors_14 : decode cX2_fillFloors 14 = .ok (.getfield 45, 3) := by decide +kernel
theorem dX2_fillFloors_17 : decode cX2_fillFloors 17 = .ok (.getfield 116, 3) := by decide +kernel
theorem dX2_fillFloors_20 : decode cX2_fillFloors 20 = .ok (.iload_n 1, 1) := by decide +kernel
theorem dX2_fillFloors_21 : decode cX2_fillFloors 21 = .ok (.iaload, 1) := by decide +kernel
theorem dX2_fillFloors_22 : decode cX2_fillFloors 22 = .ok (.iconst 2, 1) := by decide +kernel
theorem dX2_fillFloors_23 : decode cX2_fillFloors 23 = .ok (.if_icmp .ne 98, 3) := by decide +kernel
theorem dX2_fillFloors_26 : decode cX2_fillFloors 26 = .ok (.aload_n 0, 1) := by decide +kernel
theorem dX2_fillFloors_27 : decode cX2_fillFloors 27 = .ok (.getfield 45, 3) := by decide +kernel
theorem dX2_fillFloors_30 : decode cX2_fillFloors 30 = .ok (.getfield 236, 3) := by decide +kernel
theorem dX2_fillFloors_33 : decode cX2_fillFloors 33 = .ok (.iload_n 1, 1) := by decide +kernel
theorem dX2_fillFloors_34 : decode cX2_fillFloors 34 = .ok (.iaload, 1) := by decide +kernel
theorem dX2_fillFloors_35 : decode cX2_fillFloors 35 = .ok (.aload_n 0, 1) := by decide +kernel
theorem dX2_fillFloors_36 : decode cX2_fillFloors 36 = .ok (.invokevirtual 185, 3) := by decide +kernel
theorem dX2_fillFloors_39 : decode cX2_fillFloors 39 = .ok (.if_icmp .gt 82, 3) := by decide +kernel
theorem dX2_fillFloors_42 : decode cX2_fillFloors 42 = .ok (.aload_n 0, 1) := by decide +kernel
theorem dX2_fillFloors_43 : decode cX2_fillFloors 43 = .ok (.getfield 45, 3) := by decide +kernel
theorem dX2_fillFloors_46 : decode cX2_fillFloors 46 = .ok (.getfield 235, 3) := by decide +kernel
theorem dX2_fillFloors_49 : decode cX2_fillFloors 49 = .ok (.iload_n 1, 1) := by decide +kernel
theorem dX2_fillFloors_50 : decode cX2_fillFloors 50 = .ok (.iaload, 1) := by decide +kernel
theorem dX2_fillFloors_51 : decode cX2_fillFloors 51 = .ok (.istore_n 2, 1) := by decide +kernel
theorem dX2_fillFloors_52 : decode cX2_fillFloors 52 = .ok (.aload_n 0, 1) := by decide +kernel
theorem dX2_fillFloors_53 : decode cX2_fillFloors 53 = .ok (.iload_n 2, 1) := by decide +kernel
theorem dX2_fillFloors_54 : decode cX2_fillFloors 54 = .ok (.aload_n 0, 1) := by decide +kernel
theorem dX2_fillFloors_55 : decode cX2_fillFloors 55 = .ok (.getfield 78, 3) := by decide +kernel
theorem dX2_fillFloors_58 : decode cX2_fillFloors 58 = .ok (.iconst 4, 1) := by decide +kernel
theorem dX2_fillFloors_59 : decode cX2_fillFloors 59 = .ok (.isub, 1) := by decide +kernel
theorem dX2_fillFloors_60 : decode cX2_fillFloors 60 = .ok (.iconst 1, 1) := by decide +kernel
theorem dX2_fillFloors_61 : decode cX2_fillFloors 61 = .ok (.iadd, 1) := by decide +kernel
theorem dX2_fillFloors_62 : decode cX2_fillFloors 62 = .ok (.aload_n 0, 1) := by decide +kernel
theorem dX2_fillFloors_63 : decode cX2_fillFloors 63 = .ok (.getfield 78, 3) := by decide +kernel
theorem dX2_fillFloors_66 : decode cX2_fillFloors 66 = .ok (.iconst 1, 1) := by decide +kernel
theorem dX2_fillFloors_67 : decode cX2_fillFloors 67 = .ok (.iadd, 1) := by decide +kernel
theorem dX2_fillFloors_68 : decode cX2_fillFloors 68 = .ok (.invokevirtual 112, 3) := by decide +kernel
theorem dX2_fillFloors_71 : decode cX2_fillFloors 71 = .ok (.lstore_n 3, 1) := by decide +kernel
theorem dX2_fillFloors_72 : decode cX2_fillFloors 72 = .ok (.lconst 0, 1) := by decide +kernel
theorem dX2_fillFloors_73 : decode cX2_fillFloors 73 = .ok (.aload_n 0, 1) := by decide +kernel
theorem dX2_fillFloors_74 : decode cX2_fillFloors 74 = .ok (.getfield 45, 3) := by decide +kernel
theorem dX2_fillFloors_77 : decode cX2_fillFloors 77 = .ok (.getfield 121, 3) := by decide +kernel
theorem dX2_fillFloors_80 : decode cX2_fillFloors 80 = .ok (.iload_n 1, 1) := by decide +kernel
theorem dX2_fillFloors_81 : decode cX2_fillFloors 81 = .ok (.iaload, 1) := by decide +kernel
theorem dX2_fillFloors_82 : decode cX2_fillFloors 82 = .ok (.i2l, 1) := by decide +kernel
theorem dX2_fillFloors_83 : decode cX2_fillFloors 83 = .ok (.lload_n 3, 1) := by decide +kernel
theorem dX2_fillFloors_84 : decode cX2_fillFloors 84 = .ok (.lsub, 1) := by decide +kernel
theorem dX2_fillFloors_85 : decode cX2_fillFloors 85 = .ok (.invokestatic 229, 3) := by decide +kernel
theorem dX2_fillFloors_88 : decode cX2_fillFloors 88 = .ok (.lstore 5, 2) := by decide +kernel
theorem dX2_fillFloors_90 : decode cX2_fillFloors 90 = .ok (.aload_n 0, 1) := by decide +kernel
theorem dX2_fillFloors_91 : decode cX2_fillFloors 91 = .ok (.getfield 21, 3) := by decide +kernel
theorem dX2_fillFloors_94 : decode cX2_fillFloors 94 = .ok (.iload_n 2, 1) := by decide +kernel
theorem dX2_fillFloors_95 : decode cX2_fillFloors 95 = .ok (.bipush 40, 2) := by decide +kernel
theorem dX2_fillFloors_97 : decode cX2_fillFloors 97 = .ok (.imul, 1) := by decide +kernel
theorem dX2_fillFloors_98 : decode cX2_fillFloors 98 = .ok (.aload_n 0, 1) := by decide +kernel
theorem dX2_fillFloors_99 : decode cX2_fillFloors 99 = .ok (.getfield 78, 3) := by decide +kernel
theorem dX2_fillFloors_102 : decode cX2_fillFloors 102 = .ok (.iadd, 1) := by decide +kernel
theorem dX2_fillFloors_103 : decode cX2_fillFloors 103 = .ok (.dup2, 1) := by decide +kernel
theorem dX2_fillFloors_104 : decode cX2_fillFloors 104 = .ok (.iaload, 1) := by decide +kernel
theorem dX2_fillFloors_105 : decode cX2_fillFloors 105 = .ok (.lload 5, 2) := by decide +kernel
theorem dX2_fillFloors_107 : decode cX2_fillFloors 107 = .ok (.l2i, 1) := by decide +kernel
theorem dX2_fillFloors_108 : decode cX2_fillFloors 108 = .ok (.iadd, 1) := by decide +kernel
theorem dX2_fillFloors_109 : decode cX2_fillFloors 109 = .ok (.iastore, 1) := by decide +kernel
theorem dX2_fillFloors_110 : decode cX2_fillFloors 110 = .ok (.aload_n 0, 1) := by decide +kernel
theorem dX2_fillFloors_111 : decode cX2_fillFloors 111 = .ok (.getfield 18, 3) := by decide +kernel
theorem dX2_fillFloors_114 : decode cX2_fillFloors 114 = .ok (.iload_n 2, 1) := by decide +kernel
theorem dX2_fillFloors_115 : decode cX2_fillFloors 115 = .ok (.dup2, 1) := by decide +kernel
theorem dX2_fillFloors_116 : decode cX2_fillFloors 116 = .ok (.laload, 1) := by decide +kernel
theorem dX2_fillFloors_117 : decode cX2_fillFloors 117 = .ok (.lload 5, 2) := by decide +kernel
theorem dX2_fillFloors_119 : decode cX2_fillFloors 119 = .ok (.ladd, 1) := by decide +kernel
theorem dX2_fillFloors_120 : decode cX2_fillFloors 120 = .ok (.lastore, 1) := by decide +kernel
theorem dX2_fillFloors_121 : decode cX2_fillFloors 121 = .ok (.iinc 1 1, 3) := by decide +kernel
theorem dX2_fillFloors_124 : decode cX2_fillFloors 124 = .ok (.goto (-122), 3) := by decide +kernel
theorem dX2_fillFloors_127 : decode cX2_fillFloors 127 = .ok (.return_, 1) := by decide +kernel
theorem dX3_init_0 : decode cX3_init 0 = .ok (.aload_n 0, 1) := by decide +kernel
theorem dX3_init_1 : decode cX3_init 1 = .ok (.invokespecial 1, 3) := by decide +kernel
theorem dX3_init_4 : decode cX3_init 4 = .ok (.aload_n 0, 1) := by decide +kernel
theorem dX3_init_5 : decode cX3_init 5 = .ok (.iconst 0, 1) := by decide +kernel
theorem dX3_init_6 : decode cX3_init 6 = .ok (.iload_n 1, 1) := by decide +kernel
theorem dX3_init_7 : decode cX3_init 7 = .ok (.invokestatic 7, 3) := by decide +kernel
theorem dX3_init_10 : decode cX3_init 10 = .ok (.putfield 13, 3) := by decide +kernel
theorem dX3_init_13 : decode cX3_init 13 = .ok (.aload_n 0, 1) := by decide +kernel
theorem dX3_init_14 : decode cX3_init 14 = .ok (.aload_n 0, 1) := by decide +kernel
theorem dX3_init_15 : decode cX3_init 15 = .ok (.getfield 13, 3) := by decide +kernel
theorem dX3_init_18 : decode cX3_init 18 = .ok (.newarray .int, 2) := by decide +kernel
theorem dX3_init_20 : decode cX3_init 20 = .ok (.putfield 19, 3) := by decide +kernel
theorem dX3_init_23 : decode cX3_init 23 = .ok (.aload_n 0, 1) := by decide +kernel
theorem dX3_init_24 : decode cX3_init 24 = .ok (.aload_n 0, 1) := by decide +kernel
theorem dX3_init_25 : decode cX3_init 25 = .ok (.getfield 13, 3) := by decide +kernel
theorem dX3_init_28 : decode cX3_init 28 = .ok (.newarray .int, 2) := by decide +kernel
theorem dX3_init_30 : decode cX3_init 30 = .ok (.putfield 23, 3) := by decide +kernel
theorem dX3_init_33 : decode cX3_init 33 = .ok (.aload_n 0, 1) := by decide +kernel
theorem dX3_init_34 : decode cX3_init 34 = .ok (.aload_n 0, 1) := by decide +kernel
theorem dX3_init_35 : decode cX3_init 35 = .ok (.getfield 13, 3) := by decide +kernel
theorem dX3_init_38 : decode cX3_init 38 = .ok (.newarray .int, 2) := by decide +kernel
theorem dX3_init_40 : decode cX3_init 40 = .ok (.putfield 26, 3) := by decide +kernel
theorem dX3_init_43 : decode cX3_init 43 = .ok (.aload_n 0, 1) := by decide +kernel
theorem dX3_init_44 : decode cX3_init 44 = .ok (.aload_n 0, 1) := by decide +kernel
theorem dX3_init_45 : decode cX3_init 45 = .ok (.getfield 13, 3) := by decide +kernel
theorem dX3_init_48 : decode cX3_init 48 = .ok (.newarray .long, 2) := by decide +kernel
theorem dX3_init_50 : decode cX3_init 50 = .ok (.putfield 29, 3) := by decide +kernel
theorem dX3_init_53 : decode cX3_init 53 = .ok (.aload_n 0, 1) := by decide +kernel
theorem dX3_init_54 : decode cX3_init 54 = .ok (.aload_n 0, 1) := by decide +kernel
theorem dX3_init_55 : decode cX3_init 55 = .ok (.getfield 13, 3) := by decide +kernel
theorem dX3_init_58 : decode cX3_init 58 = .ok (.newarray .long, 2) := by decide +kernel
theorem dX3_init_60 : decode cX3_init 60 = .ok (.putfield 33, 3) := by decide +kernel
theorem dX3_init_63 : decode cX3_init 63 = .ok (.return_, 1) := by decide +kernel
theorem dX3_kept_0 : decode cX3_kept 0 = .ok (.aload_n 0, 1) := by decide +kernel
theorem dX3_kept_1 : decode cX3_kept 1 = .ok (.getfield 36, 3) := by decide +kernel
theorem dX3_kept_4 : decode cX3_kept 4 = .ok (.aload_n 0, 1) := by decide +kernel
theorem dX3_kept_5 : decode cX3_kept 5 = .ok (.getfield 13, 3) := by decide +kernel
theorem dX3_kept_8 : decode cX3_kept 8 = .ok (.invokestatic 39, 3) := by decide +kernel
theorem dX3_kept_11 : decode cX3_kept 11 = .ok (.ireturn, 1) := by decide +kernel
theorem dX3_begin_0 : decode cX3_begin 0 = .ok (.aload_n 0, 1) := by decide +kernel
theorem dX3_begin_1 : decode cX3_begin 1 = .ok (.getfield 36, 3) := by decide +kernel
theorem dX3_begin_4 : decode cX3_begin 4 = .ok (.istore 6, 2) := by decide +kernel
theorem dX3_begin_6 : decode cX3_begin 6 = .ok (.iload 6, 2) := by decide +kernel
theorem dX3_begin_8 : decode cX3_begin 8 = .ok (.aload_n 0, 1) := by decide +kernel
theorem dX3_begin_9 : decode cX3_begin 9 = .ok (.getfield 13, 3) := by decide +kernel
theorem dX3_begin_12 : decode cX3_begin 12 = .ok (.if_icmp .ge 36, 3) := by decide +kernel
theorem dX3_begin_15 : decode cX3_begin 15 = .ok (.aload_n 0, 1) := by decide +kernel
theorem dX3_begin_16 : decode cX3_begin 16 = .ok (.getfield 19, 3) := by decide +kernel
theorem dX3_begin_19 : decode cX3_begin 19 = .ok (.iload 6, 2) := by decide +kernel
theorem dX3_begin_21 : decode cX3_begin 21 = .ok (.iload_n 1, 1) := by decide +kernel
theorem dX3_begin_22 : decode cX3_begin 22 = .ok (.iastore, 1) := by decide +kernel
theorem dX3_begin_23 : decode cX3_begin 23 = .ok (.aload_n 0, 1) := by decide +kernel
theorem dX3_begin_24 : decode cX3_begin 24 = .ok (.getfield 23, 3) := by decide +kernel
theorem dX3_begin_27 : decode cX3_begin 27 = .ok (.iload 6, 2) := by decide +kernel
theorem dX3_begin_29 : decode cX3_begin 29 = .ok (.iload_n 2, 1) := by decide +kernel
theorem dX3_begin_30 : decode cX3_begin 30 = .ok (.iastore, 1) := by decide +kernel
theorem dX3_begin_31 : decode cX3_begin 31 = .ok (.aload_n 0, 1) := by decide +kernel
theorem dX3_begin_32 : decode cX3_begin 32 = .ok (.getfield 26, 3) := by decide +kernel
theorem dX3_begin_35 : decode cX3_begin 35 = .ok (.iload 6, 2) := by decide +kernel
theorem dX3_begin_37 : decode cX3_begin 37 = .ok (.iload_n 3, 1) := by decide +kernel
theorem dX3_begin_38 : decode cX3_begin 38 = .ok (.iastore, 1) := by decide +kernel
theorem dX3_begin_39 : decode cX3_begin 39 = .ok (.aload_n 0, 1) := by decide +kernel
theorem dX3_begin_40 : decode cX3_begin 40 = .ok (.getfield 29, 3) := by decide +kernel
theorem dX3_begin_43 : decode cX3_begin 43 = .ok (.iload 6, 2) := by decide +kernel
theorem dX3_begin_45 : decode cX3_begin 45 = .ok (.lload 4, 2) := by decide +kernel
theorem dX3_begin_47 : decode cX3_begin 47 = .ok (.lastore, 1) := by decide +kernel
theorem dX3_begin_48 : decode cX3_begin 48 = .ok (.aload_n 0, 1) := by decide +kernel
theorem dX3_begin_49 : decode cX3_begin 49 = .ok (.dup, 1) := by decide +kernel
theorem dX3_begin_50 : decode cX3_begin 50 = .ok (.getfield 36, 3) := by decide +kernel
theorem dX3_begin_53 : decode cX3_begin 53 = .ok (.iconst 1, 1) := by decide +kernel
theorem dX3_begin_54 : decode cX3_begin 54 = .ok (.iadd, 1) := by decide +kernel
theorem dX3_begin_55 : decode cX3_begin 55 = .ok (.putfield 36, 3) := by decide +kernel
theorem dX3_begin_58 : decode cX3_begin 58 = .ok (.iload 6, 2) := by decide +kernel
theorem dX3_begin_60 : decode cX3_begin 60 = .ok (.ireturn, 1) := by decide +kernel
theorem dX3_end_0 : decode cX3_end 0 = .ok (.iload_n 1, 1) := by decide +kernel
theorem dX3_end_1 : decode cX3_end 1 = .ok (.ifCond .lt 18, 3) := by decide +kernel
theorem dX3_end_4 : decode cX3_end 4 = .ok (.iload_n 1, 1) := by decide +kernel
theorem dX3_end_5 : decode cX3_end 5 = .ok (.aload_n 0, 1) := by decide +kernel
theorem dX3_end_6 : decode cX3_end 6 = .ok (.getfield 13, 3) := by decide +kernel
theorem dX3_end_9 : decode cX3_end 9 = .ok (.if_icmp .ge 10, 3) := by decide +kernel
theorem dX3_end_12 : decode cX3_end 12 = .ok (.aload_n 0, 1) := by decide +kernel
theorem dX3_end_13 : decode cX3_end 13 = .ok (.getfield 33, 3) := by decide +kernel
theorem dX3_end_16 : decode cX3_end 16 = .ok (.iload_n 1, 1) := by decide +kernel
theorem dX3_end_17 : decode cX3_end 17 = .ok (.lload_n 2, 1) := by decide +kernel
theorem dX3_end_18 : decode cX3_end 18 = .ok (.lastore, 1) := by decide +kernel
theorem dX3_end_19 : decode cX3_end 19 = .ok (.return_, 1) := by decide +kernel
theorem dX4_init_0 : decode cX4_init 0 = .ok (.aload_n 0, 1) := by decide +kernel
theorem dX4_init_1 : decode cX4_init 1 = .ok (.invokespecial 3, 3) := by decide +kernel
theorem dX4_init_4 : decode cX4_init 4 = .ok (.aload_n 0, 1) := by decide +kernel
theorem dX4_init_5 : decode cX4_init 5 = .ok (.sipush 1440, 3) := by decide +kernel
theorem dX4_init_8 : decode cX4_init 8 = .ok (.newarray .int, 2) := by decide +kernel
theorem dX4_init_10 : decode cX4_init 10 = .ok (.putfield 9, 3) := by decide +kernel
theorem dX4_init_13 : decode cX4_init 13 = .ok (.aload_n 0, 1) := by decide +kernel
theorem dX4_init_14 : decode cX4_init 14 = .ok (.sipush 480, 3) := by decide +kernel
theorem dX4_init_17 : decode cX4_init 17 = .ok (.newarray .int, 2) := by decide +kernel
theorem dX4_init_19 : decode cX4_init 19 = .ok (.putfield 15, 3) := by decide +kernel
theorem dX4_init_22 : decode cX4_init 22 = .ok (.aload_n 0, 1) := by decide +kernel
theorem dX4_init_23 : decode cX4_init 23 = .ok (.sipush 480, 3) := by decide +kernel
theorem dX4_init_26 : decode cX4_init 26 = .ok (.newarray .int, 2) := by decide +kernel
theorem dX4_init_28 : decode cX4_init 28 = .ok (.putfield 18, 3) := by decide +kernel
theorem dX4_init_31 : decode cX4_init 31 = .ok (.aload_n 0, 1) := by decide +kernel
theorem dX4_init_32 : decode cX4_init 32 = .ok (.sipush 480, 3) := by decide +kernel
theorem dX4_init_35 : decode cX4_init 35 = .ok (.newarray .int, 2) := by decide +kernel
theorem dX4_init_37 : decode cX4_init 37 = .ok (.putfield 21, 3) := by decide +kernel
theorem dX4_init_40 : decode cX4_init 40 = .ok (.aload_n 0, 1) := by decide +kernel
theorem dX4_init_41 : decode cX4_init 41 = .ok (.bipush 40, 2) := by decide +kernel
theorem dX4_init_43 : decode cX4_init 43 = .ok (.newarray .int, 2) := by decide +kernel
theorem dX4_init_45 : decode cX4_init 45 = .ok (.putfield 24, 3) := by decide +kernel
theorem dX4_init_48 : decode cX4_init 48 = .ok (.aload_n 0, 1) := by decide +kernel
theorem dX4_init_49 : decode cX4_init 49 = .ok (.bipush 40, 2) := by decide +kernel
theorem dX4_init_51 : decode cX4_init 51 = .ok (.newarray .int, 2) := by decide +kernel
theorem dX4_init_53 : decode cX4_init 53 = .ok (.putfield 27, 3) := by decide +kernel
theorem dX4_init_56 : decode cX4_init 56 = .ok (.return_, 1) := by decide +kernel
theorem dX4_put_0 : decode cX4_put 0 = .ok (.iload_n 1, 1) := by decide +kernel
theorem dX4_put_1 : decode cX4_put 1 = .ok (.bipush 12, 2) := by decide +kernel
theorem dX4_put_3 : decode cX4_put 3 = .ok (.imul, 1) := by decide +kernel
theorem dX4_put_4 : decode cX4_put 4 = .ok (.iload_n 2, 1) := by decide +kernel
theorem dX4_put_5 : decode cX4_put 5 = .ok (.iadd, 1) := by decide +kernel
theorem dX4_put_6 : decode cX4_put 6 = .ok (.istore 7, 2) := by decide +kernel
theorem dX4_put_8 : decode cX4_put 8 = .ok (.aload_n 0, 1) := by decide +kernel
theorem dX4_put_9 : decode cX4_put 9 = .ok (.getfield 15, 3) := by decide +kernel
theorem dX4_put_12 : decode cX4_put 12 = .ok (.iload 7, 2) := by decide +kernel
theorem dX4_put_14 : decode cX4_put 14 = .ok (.iaload, 1) := by decide +kernel
theorem dX4_put_15 : decode cX4_put 15 = .ok (.ifCond .ne 43, 3) := by decide +kernel
theorem dX4_put_18 : decode cX4_put 18 = .ok (.aload_n 0, 1) := by decide +kernel
theorem dX4_put_19 : decode cX4_put 19 = .ok (.getfield 18, 3) := by decide +kernel
theorem dX4_put_22 : decode cX4_put 22 = .ok (.iload 7, 2) := by decide +kernel
theorem dX4_put_24 : decode cX4_put 24 = .ok (.aload_n 0, 1) := by decide +kernel
theorem dX4_put_25 : decode cX4_put 25 = .ok (.getfield 24, 3) := by decide +kernel
theorem dX4_put_28 : decode cX4_put 28 = .ok (.iload_n 1, 1) := by decide +kernel
theorem dX4_put_29 : decode cX4_put 29 = .ok (.iaload, 1) := by decide +kernel
theorem dX4_put_30 : decode cX4_put 30 = .ok (.iastore, 1) := by decide +kernel
theorem dX4_put_31 : decode cX4_put 31 = .ok (.aload_n 0, 1) := by decide +kernel
theorem dX4_put_32 : decode cX4_put 32 = .ok (.getfield 21, 3) := by decide +kernel
theorem dX4_put_35 : decode cX4_put 35 = .ok (.iload_n 1, 1) := by decide +kernel
theorem dX4_put_36 : decode cX4_put 36 = .ok (.bipush 12, 2) := by decide +kernel
theorem dX4_put_38 : decode cX4_put 38 = .ok (.imul, 1) := by decide +kernel
theorem dX4_put_39 : decode cX4_put 39 = .ok (.aload_n 0, 1) := by decide +kernel
theorem dX4_put_40 : decode cX4_put 40 = .ok (.getfield 24, 3) := by decide +kernel
theorem dX4_put_43 : decode cX4_put 43 = .ok (.iload_n 1, 1) := by decide +kernel
theorem dX4_put_44 : decode cX4_put 44 = .ok (.iaload, 1) := by decide +kernel
theorem dX4_put_45 : decode cX4_put 45 = .ok (.iadd, 1) := by decide +kernel
theorem dX4_put_46 : decode cX4_put 46 = .ok (.iload_n 2, 1) := by decide +kernel
theorem dX4_put_47 : decode cX4_put 47 = .ok (.iastore, 1) := by decide +kernel
theorem dX4_put_48 : decode cX4_put 48 = .ok (.aload_n 0, 1) := by decide +kernel
theorem dX4_put_49 : decode cX4_put 49 = .ok (.getfield 24, 3) := by decide +kernel
theorem dX4_put_52 : decode cX4_put 52 = .ok (.iload_n 1, 1) := by decide +kernel
theorem dX4_put_53 : decode cX4_put 53 = .ok (.dup2, 1) := by decide +kernel
theorem dX4_put_54 : decode cX4_put 54 = .ok (.iaload, 1) := by decide +kernel
theorem dX4_put_55 : decode cX4_put 55 = .ok (.iconst 1, 1) := by decide +kernel
theorem dX4_put_56 : decode cX4_put 56 = .ok (.iadd, 1) := by decide +kernel
theorem dX4_put_57 : decode cX4_put 57 = .ok (.iastore, 1) := by decide +kernel
theorem dX4_put_58 : decode cX4_put 58 = .ok (.aload_n 0, 1) := by decide +kernel
theorem dX4_put_59 : decode cX4_put 59 = .ok (.getfield 15, 3) := by decide +kernel
theorem dX4_put_62 : decode cX4_put 62 = .ok (.iload 7, 2) := by decide +kernel
theorem dX4_put_64 : decode cX4_put 64 = .ok (.iload 6, 2) := by decide +kernel
theorem dX4_put_66 : decode cX4_put 66 = .ok (.ifCond .eq 7, 3) := by decide +kernel
theorem dX4_put_69 : decode cX4_put 69 = .ok (.iconst 2, 1) := by decide +kernel
theorem dX4_put_70 : decode cX4_put 70 = .ok (.goto 4, 3) := by decide +kernel
theorem dX4_put_73 : decode cX4_put 73 = .ok (.iconst 1, 1) := by decide +kernel
theorem dX4_put_74 : decode cX4_put 74 = .ok (.iastore, 1) := by decide +kernel
theorem dX4_put_75 : decode cX4_put 75 = .ok (.aload_n 0, 1) := by decide +kernel
theorem dX4_put_76 : decode cX4_put 76 = .ok (.getfield 9, 3) := by decide +kernel
theorem dX4_put_79 : decode cX4_put 79 = .ok (.iload 7, 2) := by decide +kernel
theorem dX4_put_81 : decode cX4_put 81 = .ok (.iconst 3, 1) := by decide +kernel
theorem dX4_put_82 : decode cX4_put 82 = .ok (.imul, 1) := by decide +kernel
theorem dX4_put_83 : decode cX4_put 83 = .ok (.iload_n 3, 1) := by decide +kernel
theorem dX4_put_84 : decode cX4_put 84 = .ok (.iastore, 1) := by decide +kernel
theorem dX4_put_85 : decode cX4_put 85 = .ok (.aload_n 0, 1) := by decide +kernel
theorem dX4_put_86 : decode cX4_put 86 = .ok (.getfield 9, 3) := by decide +kernel
theorem dX4_put_89 : decode cX4_put 89 = .ok (.iload 7, 2) := by decide +kernel
theorem dX4_put_91 : decode cX4_put 91 = .ok (.iconst 3, 1) := by decide +kernel
theorem dX4_put_92 : decode cX4_put 92 = .ok (.imul, 1) := by decide +kernel
theorem dX4_put_93 : decode cX4_put 93 = .ok (.iconst 1, 1) := by decide +kernel
theorem dX4_put_94 : decode cX4_put 94 = .ok (.iadd, 1) := by decide +kernel
theorem dX4_put_95 : decode cX4_put 95 = .ok (.iload 6, 2) := by decide +kernel
theorem dX4_put_97 : decode cX4_put 97 = .ok (.ifCond .eq 8, 3) := by decide +kernel
theorem dX4_put_100 : decode cX4_put 100 = .ok (.iload 4, 2) := by decide +kernel
theorem dX4_put_102 : decode cX4_put 102 = .ok (.goto 4, 3) := by decide +kernel
theorem dX4_put_105 : decode cX4_put 105 = .ok (.iconst 0, 1) := by decide +kernel
theorem dX4_put_106 : decode cX4_put 106 = .ok (.iastore, 1) := by decide +kernel
theorem dX4_put_107 : decode cX4_put 107 = .ok (.aload_n 0, 1) := by decide +kernel
theorem dX4_put_108 : decode cX4_put 108 = .ok (.getfield 9, 3) := by decide +kernel
theorem dX4_put_111 : decode cX4_put 111 = .ok (.iload 7, 2) := by decide +kernel
theorem dX4_put_113 : decode cX4_put 113 = .ok (.iconst 3, 1) := by decide +kernel
theorem dX4_put_114 : decode cX4_put 114 = .ok (.imul, 1) := by decide +kernel
theorem dX4_put_115 : decode cX4_put 115 = .ok (.iconst 2, 1) := by decide +kernel
theorem dX4_put_116 : decode cX4_put 116 = .ok (.iadd, 1) := by decide +kernel
theorem dX4_put_117 : decode cX4_put 117 = .ok (.iload 6, 2) := by decide +kernel
theorem dX4_put_119 : decode cX4_put 119 = .ok (.ifCond .eq 8, 3) := by decide +kernel
theorem dX4_put_122 : decode cX4_put 122 = .ok (.iload 5, 2) := by decide +kernel
theorem dX4_put_124 : decode cX4_put 124 = .ok (.goto 4, 3) := by decide +kernel
theorem dX4_put_127 : decode cX4_put 127 = .ok (.iconst 0, 1) := by decide +kernel
theorem dX4_put_128 : decode cX4_put 128 = .ok (.iastore, 1) := by decide +kernel
theorem dX4_put_129 : decode cX4_put 129 = .ok (.return_, 1) := by decide +kernel
theorem dX4_tearAt_0 : decode cX4_tearAt 0 = .ok (.aload_n 0, 1) := by decide +kernel
theorem dX4_tearAt_1 : decode cX4_tearAt 1 = .ok (.getfield 27, 3) := by decide +kernel
theorem dX4_tearAt_4 : decode cX4_tearAt 4 = .ok (.iload_n 1, 1) := by decide +kernel
theorem dX4_tearAt_5 : decode cX4_tearAt 5 = .ok (.sipush 4095, 3) := by decide +kernel
theorem dX4_tearAt_8 : decode cX4_tearAt 8 = .ok (.iload_n 2, 1) := by decide +kernel
theorem dX4_tearAt_9 : decode cX4_tearAt 9 = .ok (.ishl, 1) := by decide +kernel
theorem dX4_tearAt_10 : decode cX4_tearAt 10 = .ok (.sipush 4095, 3) := by decide +kernel
theorem dX4_tearAt_13 : decode cX4_tearAt 13 = .ok (.iand, 1) := by decide +kernel
theorem dX4_tearAt_14 : decode cX4_tearAt 14 = .ok (.iastore, 1) := by decide +kernel
theorem dX4_tearAt_15 : decode cX4_tearAt 15 = .ok (.return_, 1) := by decide +kernel
set_option maxRecDepth 20000 in
theorem ggX4_tornAt_J6_bitCount_0f7a4 : GoodIn wsX4_tornAt wsJ6_bitCount_0f7a4 := goodIn_r _ [5, 6, 7, 8] (by decide +kernel) (by decide +kernel)
set_option maxRecDepth 20000 in
theorem gX4_tornAt_J6_bitCount_0f7a4 : GoodIn wsX4_tornAt (va_wsS RX4 30 yJ6_bitCount_0f7a4 wsJ6_bitCount_0f7a4) := goodIn_app (goodIn_of _ (by decide +kernel)) ggX4_tornAt_J6_bitCount_0f7a4
theorem dX4_tornAt_0 : decode cX4_tornAt 0 = .ok (.bipush 12, 2) := by decide +kernel
theorem dX4_tornAt_2 : decode cX4_tornAt 2 = .ok (.aload_n 0, 1) := by decide +kernel
theorem dX4_tornAt_3 : decode cX4_tornAt 3 = .ok (.getfield 27, 3) := by decide +kernel
theorem dX4_tornAt_6 : decode cX4_tornAt 6 = .ok (.iload_n 1, 1) := by decide +kernel
theorem dX4_tornAt_7 : decode cX4_tornAt 7 = .ok (.iaload, 1) := by decide +kernel
theorem dX4_tornAt_8 : decode cX4_tornAt 8 = .ok (.invokestatic 30, 3) := by decide +kernel
theorem dX4_tornAt_11 : decode cX4_tornAt 11 = .ok (.isub, 1) := by decide +kernel
theorem dX4_tornAt_12 : decode cX4_tornAt 12 = .ok (.ireturn, 1) := by decide +kernel
theorem dX4_bringBack_0 : decode cX4_bringBack 0 = .ok (.aload_n 0, 1) := by decide +kernel
theorem dX4_bringBack_1 : decode cX4_bringBack 1 = .ok (.getfield 27, 3) := by decide +kernel
theorem dX4_bringBack_4 : decode cX4_bringBack 4 = .ok (.iload_n 1, 1) := by decide +kernel
theorem dX4_bringBack_5 : decode cX4_bringBack 5 = .ok (.dup2, 1) := by decide +kernel
theorem dX4_bringBack_6 : decode cX4_bringBack 6 = .ok (.iaload, 1) := by decide +kernel
theorem dX4_bringBack_7 : decode cX4_bringBack 7 = .ok (.iconst 1, 1) := by decide +kernel
theorem dX4_bringBack_8 : decode cX4_bringBack 8 = .ok (.iload_n 2, 1) := by decide +kernel
theorem dX4_bringBack_9 : decode cX4_bringBack 9 = .ok (.ishl, 1) := by decide +kernel
theorem dX4_bringBack_10 : decode cX4_bringBack 10 = .ok (.iconst (-1), 1) := by decide +kernel
theorem dX4_bringBack_11 : decode cX4_bringBack 11 = .ok (.ixor, 1) := by decide +kernel
theorem dX4_bringBack_12 : decode cX4_bringBack 12 = .ok (.iand, 1) := by decide +kernel
theorem dX4_bringBack_13 : decode cX4_bringBack 13 = .ok (.iastore, 1) := by decide +kernel
theorem dX4_bringBack_14 : decode cX4_bringBack 14 = .ok (.return_, 1) := by decide +kernel
theorem dX4_isOpen_0 : decode cX4_isOpen 0 = .ok (.aload_n 0, 1) := by decide +kernel
theorem dX4_isOpen_1 : decode cX4_isOpen 1 = .ok (.getfield 27, 3) := by decide +kernel
theorem dX4_isOpen_4 : decode cX4_isOpen 4 = .ok (.iload_n 1, 1) := by decide +kernel
theorem dX4_isOpen_5 : decode cX4_isOpen 5 = .ok (.iaload, 1) := by decide +kernel
theorem dX4_isOpen_6 : decode cX4_isOpen 6 = .ok (.iload_n 2, 1) := by decide +kernel
theorem dX4_isOpen_7 : decode cX4_isOpen 7 = .ok (.ishr, 1) := by decide +kernel
theorem dX4_isOpen_8 : decode cX4_isOpen 8 = .ok (.iconst 1, 1) := by decide +kernel
theorem dX4_isOpen_9 : decode cX4_isOpen 9 = .ok (.iand, 1) := by decide +kernel
theorem dX4_isOpen_10 : decode cX4_isOpen 10 = .ok (.iconst 1, 1) := by decide +kernel
theorem dX4_isOpen_11 : decode cX4_isOpen 11 = .ok (.if_icmp .ne 7, 3) := by decide +kernel
theorem dX4_isOpen_14 : decode cX4_isOpen 14 = .ok (.iconst 1, 1) := by decide +kernel
theorem dX4_isOpen_15 : decode cX4_isOpen 15 = .ok (.goto 4, 3) := by decide +kernel
theorem dX4_isOpen_18 : decode cX4_isOpen 18 = .ok (.iconst 0, 1) := by decide +kernel
theorem dX4_isOpen_19 : decode cX4_isOpen 19 = .ok (.ireturn, 1) := by decide +kernel
theorem dX4_sizeOf_0 : decode cX4_sizeOf 0 = .ok (.aload_n 0, 1) := by decide +kernel
theorem dX4_sizeOf_1 : decode cX4_sizeOf 1 = .ok (.getfield 24, 3) := by decide +kernel
theorem dX4_sizeOf_4 : decode cX4_sizeOf 4 = .ok (.iload_n 1, 1) := by decide +kernel
theorem dX4_sizeOf_5 : decode cX4_sizeOf 5 = .ok (.iaload, 1) := by decide +kernel
theorem dX4_sizeOf_6 : decode cX4_sizeOf 6 = .ok (.ireturn, 1) := by decide +kernel
theorem dX4_workAt_0 : decode cX4_workAt 0 = .ok (.aload_n 0, 1) := by decide +kernel
theorem dX4_workAt_1 : decode cX4_workAt 1 = .ok (.getfield 21, 3) := by decide +kernel
theorem dX4_workAt_4 : decode cX4_workAt 4 = .ok (.iload_n 1, 1) := by decide +kernel
theorem dX4_workAt_5 : decode cX4_workAt 5 = .ok (.bipush 12, 2) := by decide +kernel
theorem dX4_workAt_7 : decode cX4_workAt 7 = .ok (.imul, 1) := by decide +kernel
theorem dX4_workAt_8 : decode cX4_workAt 8 = .ok (.iload_n 2, 1) := by decide +kernel
theorem dX4_workAt_9 : decode cX4_workAt 9 = .ok (.iadd, 1) := by decide +kernel
theorem dX4_workAt_10 : decode cX4_workAt 10 = .ok (.iaload, 1) := by decide +kernel
theorem dX4_workAt_11 : decode cX4_workAt 11 = .ok (.ireturn, 1) := by decide +kernel
theorem dX4_coinsOf_0 : decode cX4_coinsOf 0 = .ok (.aload_n 0, 1) := by decide +kernel
theorem dX4_coinsOf_1 : decode cX4_coinsOf 1 = .ok (.getfield 9, 3) := by decide +kernel
theorem dX4_coinsOf_4 : decode cX4_coinsOf 4 = .ok (.iload_n 1, 1) := by decide +kernel
theorem dX4_coinsOf_5 : decode cX4_coinsOf 5 = .ok (.bipush 12, 2) := by decide +kernel
theorem dX4_coinsOf_7 : decode cX4_coinsOf 7 = .ok (.imul, 1) := by decide +kernel
theorem dX4_coinsOf_8 : decode cX4_coinsOf 8 = .ok (.iload_n 2, 1) := by decide +kernel
theorem dX4_coinsOf_9 : decode cX4_coinsOf 9 = .ok (.iadd, 1) := by decide +kernel
theorem dX4_coinsOf_10 : decode cX4_coinsOf 10 = .ok (.iconst 3, 1) := by decide +kernel
theorem dX4_coinsOf_11 : decode cX4_coinsOf 11 = .ok (.imul, 1) := by decide +kernel
theorem dX4_coinsOf_12 : decode cX4_coinsOf 12 = .ok (.iload_n 3, 1) := by decide +kernel
theorem dX4_coinsOf_13 : decode cX4_coinsOf 13 = .ok (.iadd, 1) := by decide +kernel
theorem dX4_coinsOf_14 : decode cX4_coinsOf 14 = .ok (.iaload, 1) := by decide +kernel
theorem dX4_coinsOf_15 : decode cX4_coinsOf 15 = .ok (.ireturn, 1) := by decide +kernel
theorem dX4_wayOf_0 : decode cX4_wayOf 0 = .ok (.aload_n 0, 1) := by decide +kernel
theorem dX4_wayOf_1 : decode cX4_wayOf 1 = .ok (.getfield 15, 3) := by decide +kernel
theorem dX4_wayOf_4 : decode cX4_wayOf 4 = .ok (.iload_n 1, 1) := by decide +kernel
theorem dX4_wayOf_5 : decode cX4_wayOf 5 = .ok (.bipush 12, 2) := by decide +kernel
theorem dX4_wayOf_7 : decode cX4_wayOf 7 = .ok (.imul, 1) := by decide +kernel
theorem dX4_wayOf_8 : decode cX4_wayOf 8 = .ok (.iload_n 2, 1) := by decide +kernel
theorem dX4_wayOf_9 : decode cX4_wayOf 9 = .ok (.iadd, 1) := by decide +kernel
theorem dX4_wayOf_10 : decode cX4_wayOf 10 = .ok (.iaload, 1) := by decide +kernel
theorem dX4_wayOf_11 : decode cX4_wayOf 11 = .ok (.ireturn, 1) := by decide +kernel
theorem dX4_placeOf_0 : decode cX4_placeOf 0 = .ok (.iload_n 1, 1) := by decide +kernel
theorem dX4_placeOf_1 : decode cX4_placeOf 1 = .ok (.bipush 12, 2) := by decide +kernel
theorem dX4_placeOf_3 : decode cX4_placeOf 3 = .ok (.imul, 1) := by decide +kernel
theorem dX4_placeOf_4 : decode cX4_placeOf 4 = .ok (.iload_n 2, 1) := by decide +kernel
theorem dX4_placeOf_5 : decode cX4_placeOf 5 = .ok (.iadd, 1) := by decide +kernel
theorem dX4_placeOf_6 : decode cX4_placeOf 6 = .ok (.istore_n 3, 1) := by decide +kernel
theorem dX4_placeOf_7 : decode cX4_placeOf 7 = .ok (.aload_n 0, 1) := by decide +kernel
theorem dX4_placeOf_8 : decode cX4_placeOf 8 = .ok (.getfield 15, 3) := by decide +kernel
theorem dX4_placeOf_11 : decode cX4_placeOf 11 = .ok (.iload_n 3, 1) := by decide +kernel
theorem dX4_placeOf_12 : decode cX4_placeOf 12 = .ok (.iaload, 1) := by decide +kernel
theorem dX4_placeOf_13 : decode cX4_placeOf 13 = .ok (.ifCond .ne 7, 3) := by decide +kernel
theorem dX4_placeOf_16 : decode cX4_placeOf 16 = .ok (.iconst (-1), 1) := by decide +kernel
theorem dX4_placeOf_17 : decode cX4_placeOf 17 = .ok (.goto 9, 3) := by decide +kernel
theorem dX4_placeOf_20 : decode cX4_placeOf 20 = .ok (.aload_n 0, 1) := by decide +kernel
theorem dX4_placeOf_21 : decode cX4_placeOf 21 = .ok (.getfield 18, 3) := by decide +kernel
theorem dX4_placeOf_24 : decode cX4_placeOf 24 = .ok (.iload_n 3, 1) := by decide +kernel
theorem dX4_placeOf_25 : decode cX4_placeOf 25 = .ok (.iaload, 1) := by decide +kernel
theorem dX4_placeOf_26 : decode cX4_placeOf 26 = .ok (.ireturn, 1) := by decide +kernel
theorem dX5_init_0 : decode cX5_init 0 = .ok (.aload_n 0, 1) := by decide +kernel
theorem dX5_init_1 : decode cX5_init 1 = .ok (.invokespecial 3, 3) := by decide +kernel
theorem dX5_init_4 : decode cX5_init 4 = .ok (.aload_n 0, 1) := by decide +kernel
theorem dX5_init_5 : decode cX5_init 5 = .ok (.bipush 60, 2) := by decide +kernel
theorem dX5_init_7 : decode cX5_init 7 = .ok (.newarray .int, 2) := by decide +kernel
theorem dX5_init_9 : decode cX5_init 9 = .ok (.putfield 9, 3) := by decide +kernel
theorem dX5_init_12 : decode cX5_init 12 = .ok (.aload_n 0, 1) := by decide +kernel
theorem dX5_init_13 : decode cX5_init 13 = .ok (.bipush 60, 2) := by decide +kernel
theorem dX5_init_15 : decode cX5_init 15 = .ok (.newarray .int, 2) := by decide +kernel
theorem dX5_init_17 : decode cX5_init 17 = .ok (.putfield 15, 3) := by decide +kernel
theorem dX5_init_20 : decode cX5_init 20 = .ok (.aload_n 0, 1) := by decide +kernel
theorem dX5_init_21 : decode cX5_init 21 = .ok (.bipush 60, 2) := by decide +kernel
theorem dX5_init_23 : decode cX5_init 23 = .ok (.newarray .int, 2) := by decide +kernel
theorem dX5_init_25 : decode cX5_init 25 = .ok (.putfield 18, 3) := by decide +kernel
theorem dX5_init_28 : decode cX5_init 28 = .ok (.return_, 1) := by decide +kernel
theorem dX5_add_0 : decode cX5_add 0 = .ok (.aload_n 0, 1) := by decide +kernel
theorem dX5_add_1 : decode cX5_add 1 = .ok (.getfield 9, 3) := by decide +kernel
theorem dX5_add_4 : decode cX5_add 4 = .ok (.aload_n 0, 1) := by decide +kernel
theorem dX5_add_5 : decode cX5_add 5 = .ok (.getfield 21, 3) := by decide +kernel
theorem dX5_add_8 : decode cX5_add 8 = .ok (.iload_n 1, 1) := by decide +kernel
theorem dX5_add_9 : decode cX5_add 9 = .ok (.iastore, 1) := by decide +kernel
theorem dX5_add_10 : decode cX5_add 10 = .ok (.aload_n 0, 1) := by decide +kernel
theorem dX5_add_11 : decode cX5_add 11 = .ok (.getfield 15, 3) := by decide +kernel
theorem dX5_add_14 : decode cX5_add 14 = .ok (.aload_n 0, 1) := by decide +kernel
theorem dX5_add_15 : decode cX5_add 15 = .ok (.getfield 21, 3) := by decide +kernel
theorem dX5_add_18 : decode cX5_add 18 = .ok (.iload_n 2, 1) := by decide +kernel
theorem dX5_add_19 : decode cX5_add 19 = .ok (.iastore, 1) := by decide +kernel
theorem dX5_add_20 : decode cX5_add 20 = .ok (.aload_n 0, 1) := by decide +kernel
theorem dX5_add_21 : decode cX5_add 21 = .ok (.getfield 18, 3) := by decide +kernel
theorem dX5_add_24 : decode cX5_add 24 = .ok (.aload_n 0, 1) := by decide +kernel
theorem dX5_add_25 : decode cX5_add 25 = .ok (.getfield 21, 3) := by decide +kernel
theorem dX5_add_28 : decode cX5_add 28 = .ok (.iload_n 3, 1) := by decide +kernel
theorem dX5_add_29 : decode cX5_add 29 = .ok (.iastore, 1) := by decide +kernel
theorem dX5_add_30 : decode cX5_add 30 = .ok (.aload_n 0, 1) := by decide +kernel
theorem dX5_add_31 : decode cX5_add 31 = .ok (.dup, 1) := by decide +kernel
theorem dX5_add_32 : decode cX5_add 32 = .ok (.getfield 21, 3) := by decide +kernel
theorem dX5_add_35 : decode cX5_add 35 = .ok (.iconst 1, 1) := by decide +kernel
theorem dX5_add_36 : decode cX5_add 36 = .ok (.iadd, 1) := by decide +kernel
theorem dX5_add_37 : decode cX5_add 37 = .ok (.putfield 21, 3) := by decide +kernel
theorem dX5_add_40 : decode cX5_add 40 = .ok (.aload_n 0, 1) := by decide +kernel
theorem dX5_add_41 : decode cX5_add 41 = .ok (.dup, 1) := by decide +kernel
theorem dX5_add_42 : decode cX5_add 42 = .ok (.getfield 25, 3) := by decide +kernel
theorem dX5_add_45 : decode cX5_add 45 = .ok (.iload_n 2, 1) := by decide +kernel
theorem dX5_add_46 : decode cX5_add 46 = .ok (.i2l, 1) := by decide +kernel
theorem dX5_add_47 : decode cX5_add 47 = .ok (.ladd, 1) := by decide +kernel
theorem dX5_add_48 : decode cX5_add 48 = .ok (.putfield 25, 3) := by decide +kernel
theorem dX5_add_51 : decode cX5_add 51 = .ok (.return_, 1) := by decide +kernel
theorem dX6_init_0 : decode cX6_init 0 = .ok (.aload_n 0, 1) := by decide +kernel
theorem dX6_init_1 : decode cX6_init 1 = .ok (.invokespecial 3, 3) := by decide +kernel
theorem dX6_init_4 : decode cX6_init 4 = .ok (.aload_n 0, 1) := by decide +kernel
theorem dX6_init_5 : decode cX6_init 5 = .ok (.bipush 12, 2) := by decide +kernel
theorem dX6_init_7 : decode cX6_init 7 = .ok (.newarray .int, 2) := by decide +kernel
theorem dX6_init_9 : decode cX6_init 9 = .ok (.putfield 9, 3) := by decide +kernel
theorem dX6_init_12 : decode cX6_init 12 = .ok (.aload_n 0, 1) := by decide +kernel
theorem dX6_init_13 : decode cX6_init 13 = .ok (.bipush 72, 2) := by decide +kernel
theorem dX6_init_15 : decode cX6_init 15 = .ok (.newarray .int, 2) := by decide +kernel
theorem dX6_init_17 : decode cX6_init 17 = .ok (.putfield 15, 3) := by decide +kernel
theorem dX6_init_20 : decode cX6_init 20 = .ok (.aload_n 0, 1) := by decide +kernel
theorem dX6_init_21 : decode cX6_init 21 = .ok (.sipush 216, 3) := by decide +kernel
theorem dX6_init_24 : decode cX6_init 24 = .ok (.newarray .int, 2) := by decide +kernel
theorem dX6_init_26 : decode cX6_init 26 = .ok (.putfield 18, 3) := by decide +kernel
theorem dX6_init_29 : decode cX6_init 29 = .ok (.aload_n 0, 1) := by decide +kernel
theorem dX6_init_30 : decode cX6_init 30 = .ok (.sipush 216, 3) := by decide +kernel
theorem dX6_init_33 : decode cX6_init 33 = .ok (.newarray .int, 2) := by decide +kernel
theorem dX6_init_35 : decode cX6_init 35 = .ok (.putfield 21, 3) := by decide +kernel
end
section
theorem dX6_init_38 : decode cX6_init 38 = .ok (.return_, 1) := by decide +kernel
theorem dX6_hasRoom_0 : decode cX6_hasRoom 0 = .ok (.aload_n 0, 1) := by decide +kernel
theorem dX6_hasRoom_1 : decode cX6_hasRoom 1 = .ok (.getfield 9, 3) := by decide +kernel
theorem dX6_hasRoom_4 : decode cX6_hasRoom 4 = .ok (.iload_n 1, 1) := by decide +kernel
theorem dX6_hasRoom_5 : decode cX6_hasRoom 5 = .ok (.iaload, 1) := by decide +kernel
theorem dX6_hasRoom_6 : decode cX6_hasRoom 6 = .ok (.istore_n 3, 1) := by decide +kernel
theorem dX6_hasRoom_7 : decode cX6_hasRoom 7 = .ok (.iload_n 3, 1) := by decide +kernel
theorem dX6_hasRoom_8 : decode cX6_hasRoom 8 = .ok (.ifCond .ne 5, 3) := by decide +kernel
theorem dX6_hasRoom_11 : decode cX6_hasRoom 11 = .ok (.iconst 1, 1) := by decide +kernel
theorem dX6_hasRoom_12 : decode cX6_hasRoom 12 = .ok (.ireturn, 1) := by decide +kernel
theorem dX6_hasRoom_13 : decode cX6_hasRoom 13 = .ok (.iload_n 3, 1) := by decide +kernel
theorem dX6_hasRoom_14 : decode cX6_hasRoom 14 = .ok (.bipush 6, 2) := by decide +kernel
theorem dX6_hasRoom_16 : decode cX6_hasRoom 16 = .ok (.if_icmp .ge 24, 3) := by decide +kernel
theorem dX6_hasRoom_19 : decode cX6_hasRoom 19 = .ok (.iload_n 2, 1) := by decide +kernel
theorem dX6_hasRoom_20 : decode cX6_hasRoom 20 = .ok (.aload_n 0, 1) := by decide +kernel
theorem dX6_hasRoom_21 : decode cX6_hasRoom 21 = .ok (.getfield 15, 3) := by decide +kernel
theorem dX6_hasRoom_24 : decode cX6_hasRoom 24 = .ok (.iload_n 1, 1) := by decide +kernel
theorem dX6_hasRoom_25 : decode cX6_hasRoom 25 = .ok (.bipush 6, 2) := by decide +kernel
theorem dX6_hasRoom_27 : decode cX6_hasRoom 27 = .ok (.imul, 1) := by decide +kernel
theorem dX6_hasRoom_28 : decode cX6_hasRoom 28 = .ok (.iload_n 3, 1) := by decide +kernel
theorem dX6_hasRoom_29 : decode cX6_hasRoom 29 = .ok (.iadd, 1) := by decide +kernel
theorem dX6_hasRoom_30 : decode cX6_hasRoom 30 = .ok (.iconst 1, 1) := by decide +kernel
theorem dX6_hasRoom_31 : decode cX6_hasRoom 31 = .ok (.isub, 1) := by decide +kernel
theorem dX6_hasRoom_32 : decode cX6_hasRoom 32 = .ok (.iaload, 1) := by decide +kernel
theorem dX6_hasRoom_33 : decode cX6_hasRoom 33 = .ok (.if_icmp .le 7, 3) := by decide +kernel
theorem dX6_hasRoom_36 : decode cX6_hasRoom 36 = .ok (.iconst 1, 1) := by decide +kernel
theorem dX6_hasRoom_37 : decode cX6_hasRoom 37 = .ok (.goto 4, 3) := by decide +kernel
theorem dX6_hasRoom_40 : decode cX6_hasRoom 40 = .ok (.iconst 0, 1) := by decide +kernel
theorem dX6_hasRoom_41 : decode cX6_hasRoom 41 = .ok (.ireturn, 1) := by decide +kernel
theorem dX6_addSet_0 : decode cX6_addSet 0 = .ok (.iload_n 1, 1) := by decide +kernel
theorem dX6_addSet_1 : decode cX6_addSet 1 = .ok (.bipush 6, 2) := by decide +kernel
theorem dX6_addSet_3 : decode cX6_addSet 3 = .ok (.imul, 1) := by decide +kernel
theorem dX6_addSet_4 : decode cX6_addSet 4 = .ok (.aload_n 0, 1) := by decide +kernel
theorem dX6_addSet_5 : decode cX6_addSet 5 = .ok (.getfield 9, 3) := by decide +kernel
theorem dX6_addSet_8 : decode cX6_addSet 8 = .ok (.iload_n 1, 1) := by decide +kernel
theorem dX6_addSet_9 : decode cX6_addSet 9 = .ok (.iaload, 1) := by decide +kernel
theorem dX6_addSet_10 : decode cX6_addSet 10 = .ok (.iadd, 1) := by decide +kernel
theorem dX6_addSet_11 : decode cX6_addSet 11 = .ok (.istore_n 3, 1) := by decide +kernel
theorem dX6_addSet_12 : decode cX6_addSet 12 = .ok (.aload_n 0, 1) := by decide +kernel
theorem dX6_addSet_13 : decode cX6_addSet 13 = .ok (.getfield 15, 3) := by decide +kernel
theorem dX6_addSet_16 : decode cX6_addSet 16 = .ok (.iload_n 3, 1) := by decide +kernel
theorem dX6_addSet_17 : decode cX6_addSet 17 = .ok (.iload_n 2, 1) := by decide +kernel
theorem dX6_addSet_18 : decode cX6_addSet 18 = .ok (.iastore, 1) := by decide +kernel
theorem dX6_addSet_19 : decode cX6_addSet 19 = .ok (.aload_n 0, 1) := by decide +kernel
theorem dX6_addSet_20 : decode cX6_addSet 20 = .ok (.getfield 9, 3) := by decide +kernel
theorem dX6_addSet_23 : decode cX6_addSet 23 = .ok (.iload_n 1, 1) := by decide +kernel
theorem dX6_addSet_24 : decode cX6_addSet 24 = .ok (.dup2, 1) := by decide +kernel
theorem dX6_addSet_25 : decode cX6_addSet 25 = .ok (.iaload, 1) := by decide +kernel
theorem dX6_addSet_26 : decode cX6_addSet 26 = .ok (.iconst 1, 1) := by decide +kernel
theorem dX6_addSet_27 : decode cX6_addSet 27 = .ok (.iadd, 1) := by decide +kernel
theorem dX6_addSet_28 : decode cX6_addSet 28 = .ok (.iastore, 1) := by decide +kernel
theorem dX6_addSet_29 : decode cX6_addSet 29 = .ok (.iload_n 3, 1) := by decide +kernel
theorem dX6_addSet_30 : decode cX6_addSet 30 = .ok (.ireturn, 1) := by decide +kernel
theorem dX6_put_0 : decode cX6_put 0 = .ok (.aload_n 0, 1) := by decide +kernel
theorem dX6_put_1 : decode cX6_put 1 = .ok (.getfield 18, 3) := by decide +kernel
theorem dX6_put_4 : decode cX6_put 4 = .ok (.iload_n 1, 1) := by decide +kernel
theorem dX6_put_5 : decode cX6_put 5 = .ok (.iconst 3, 1) := by decide +kernel
theorem dX6_put_6 : decode cX6_put 6 = .ok (.imul, 1) := by decide +kernel
theorem dX6_put_7 : decode cX6_put 7 = .ok (.iload_n 2, 1) := by decide +kernel
theorem dX6_put_8 : decode cX6_put 8 = .ok (.iadd, 1) := by decide +kernel
theorem dX6_put_9 : decode cX6_put 9 = .ok (.iload_n 3, 1) := by decide +kernel
theorem dX6_put_10 : decode cX6_put 10 = .ok (.iastore, 1) := by decide +kernel
theorem dX6_put_11 : decode cX6_put 11 = .ok (.aload_n 0, 1) := by decide +kernel
theorem dX6_put_12 : decode cX6_put 12 = .ok (.getfield 21, 3) := by decide +kernel
theorem dX6_put_15 : decode cX6_put 15 = .ok (.iload_n 1, 1) := by decide +kernel
theorem dX6_put_16 : decode cX6_put 16 = .ok (.iconst 3, 1) := by decide +kernel
theorem dX6_put_17 : decode cX6_put 17 = .ok (.imul, 1) := by decide +kernel
theorem dX6_put_18 : decode cX6_put 18 = .ok (.iload_n 2, 1) := by decide +kernel
theorem dX6_put_19 : decode cX6_put 19 = .ok (.iadd, 1) := by decide +kernel
theorem dX6_put_20 : decode cX6_put 20 = .ok (.iload 4, 2) := by decide +kernel
theorem dX6_put_22 : decode cX6_put 22 = .ok (.iastore, 1) := by decide +kernel
theorem dX6_put_23 : decode cX6_put 23 = .ok (.return_, 1) := by decide +kernel
theorem dX6_setAt_0 : decode cX6_setAt 0 = .ok (.iload_n 1, 1) := by decide +kernel
theorem dX6_setAt_1 : decode cX6_setAt 1 = .ok (.bipush 6, 2) := by decide +kernel
theorem dX6_setAt_3 : decode cX6_setAt 3 = .ok (.imul, 1) := by decide +kernel
theorem dX6_setAt_4 : decode cX6_setAt 4 = .ok (.istore_n 3, 1) := by decide +kernel
theorem dX6_setAt_5 : decode cX6_setAt 5 = .ok (.iconst 1, 1) := by decide +kernel
theorem dX6_setAt_6 : decode cX6_setAt 6 = .ok (.istore 4, 2) := by decide +kernel
theorem dX6_setAt_8 : decode cX6_setAt 8 = .ok (.iload 4, 2) := by decide +kernel
theorem dX6_setAt_10 : decode cX6_setAt 10 = .ok (.aload_n 0, 1) := by decide +kernel
theorem dX6_setAt_11 : decode cX6_setAt 11 = .ok (.getfield 9, 3) := by decide +kernel
theorem dX6_setAt_14 : decode cX6_setAt 14 = .ok (.iload_n 1, 1) := by decide +kernel
theorem dX6_setAt_15 : decode cX6_setAt 15 = .ok (.iaload, 1) := by decide +kernel
theorem dX6_setAt_16 : decode cX6_setAt 16 = .ok (.if_icmp .ge 33, 3) := by decide +kernel
theorem dX6_setAt_19 : decode cX6_setAt 19 = .ok (.aload_n 0, 1) := by decide +kernel
theorem dX6_setAt_20 : decode cX6_setAt 20 = .ok (.getfield 15, 3) := by decide +kernel
theorem dX6_setAt_23 : decode cX6_setAt 23 = .ok (.iload_n 1, 1) := by decide +kernel
theorem dX6_setAt_24 : decode cX6_setAt 24 = .ok (.bipush 6, 2) := by decide +kernel
theorem dX6_setAt_26 : decode cX6_setAt 26 = .ok (.imul, 1) := by decide +kernel
theorem dX6_setAt_27 : decode cX6_setAt 27 = .ok (.iload 4, 2) := by decide +kernel
theorem dX6_setAt_29 : decode cX6_setAt 29 = .ok (.iadd, 1) := by decide +kernel
theorem dX6_setAt_30 : decode cX6_setAt 30 = .ok (.iaload, 1) := by decide +kernel
theorem dX6_setAt_31 : decode cX6_setAt 31 = .ok (.iload_n 2, 1) := by decide +kernel
theorem dX6_setAt_32 : decode cX6_setAt 32 = .ok (.if_icmp .gt 11, 3) := by decide +kernel
theorem dX6_setAt_35 : decode cX6_setAt 35 = .ok (.iload_n 1, 1) := by decide +kernel
theorem dX6_setAt_36 : decode cX6_setAt 36 = .ok (.bipush 6, 2) := by decide +kernel
theorem dX6_setAt_38 : decode cX6_setAt 38 = .ok (.imul, 1) := by decide +kernel
theorem dX6_setAt_39 : decode cX6_setAt 39 = .ok (.iload 4, 2) := by decide +kernel
theorem dX6_setAt_41 : decode cX6_setAt 41 = .ok (.iadd, 1) := by decide +kernel
theorem dX6_setAt_42 : decode cX6_setAt 42 = .ok (.istore_n 3, 1) := by decide +kernel
theorem dX6_setAt_43 : decode cX6_setAt 43 = .ok (.iinc 4 1, 3) := by decide +kernel
theorem dX6_setAt_46 : decode cX6_setAt 46 = .ok (.goto (-38), 3) := by decide +kernel
theorem dX6_setAt_49 : decode cX6_setAt 49 = .ok (.iload_n 3, 1) := by decide +kernel
theorem dX6_setAt_50 : decode cX6_setAt 50 = .ok (.ireturn, 1) := by decide +kernel
set_option maxRecDepth 20000 in
theorem ggX7_init_X6_init : GoodIn wsX7_init wsX6_init := goodIn_r _ [29, 30, 2, 3, 31, 32, 33, 34, 35, 108, 109, 110, 111] (by decide +kernel) (by decide +kernel)
set_option maxRecDepth 20000 in
theorem gX7_init_X6_init_n9 : GoodIn wsX7_init (wsX6_init) := ggX7_init_X6_init
set_option maxRecDepth 20000 in
theorem ggX7_init_X0_init : GoodIn wsX7_init wsX0_init := goodIn_r _ [37, 38, 2, 3, 31, 39, 40, 41, 42, 43, 44, 45, 46, 119, 120, 121, 122, 123, 124, 125, 126, 127] (by decide +kernel) (by decide +kernel)
set_option maxRecDepth 20000 in
theorem gX7_init_X0_init_n18 : GoodIn wsX7_init (wsX0_init) := ggX7_init_X0_init
set_option maxRecDepth 20000 in
theorem ggX7_init_X4_init : GoodIn wsX7_init wsX4_init := goodIn_r _ [48, 49, 2, 3, 31, 50, 51, 52, 53, 54, 55, 128, 129, 130, 131, 132, 133] (by decide +kernel) (by decide +kernel)
set_option maxRecDepth 20000 in
theorem gX7_init_X4_init_n25 : GoodIn wsX7_init (wsX4_init) := ggX7_init_X4_init
set_option maxRecDepth 20000 in
theorem ggX7_init_X5_init : GoodIn wsX7_init wsX5_init := goodIn_r _ [57, 58, 2, 3, 31, 59, 60, 61, 134, 135, 136, 137, 138] (by decide +kernel) (by decide +kernel)
set_option maxRecDepth 20000 in
theorem gX7_init_X5_init_n32 : GoodIn wsX7_init (wsX5_init) := ggX7_init_X5_init
set_option maxRecDepth 20000 in
theorem ggX7_init_X1_init : GoodIn wsX7_init wsX1_init := goodIn_r _ [64, 65, 2, 3, 66, 67, 68, 69, 139, 140, 141, 142] (by decide +kernel) (by decide +kernel)
set_option maxRecDepth 20000 in
theorem gX7_init_X1_init : GoodIn wsX7_init (wsX1_init) := ggX7_init_X1_init
set_option maxRecDepth 20000 in
theorem ggX7_init_X2_init : GoodIn wsX7_init wsX2_init := goodIn_r _ [72, 73, 2, 3, 74, 75, 76, 77, 31, 78, 79, 80, 81, 82, 83, 84, 85, 86, 87, 88, 89, 90, 91, 92, 93, 94, 95, 96, 97, 98, 99, 100, 101, 102, 103, 104, 105, 106, 107, 143, 144, 145, 146, 147, 148, 149, 150, 151, 152, 153, 154, 155, 156, 157, 158, 139, 140, 141, 142, 159, 160, 161, 162, 163, 164, 165] (by decide +kernel) (by decide +kernel)
set_option maxRecDepth 20000 in
theorem gX7_init_X2_init : GoodIn wsX7_init (wsX2_init) := ggX7_init_X2_init
theorem dX7_init_0 : decode cX7_init 0 = .ok (.aload_n 0, 1) := by decide +kernel
theorem dX7_init_1 : decode cX7_init 1 = .ok (.invokespecial 1, 3) := by decide +kernel
theorem dX7_init_4 : decode cX7_init 4 = .ok (.aload_n 0, 1) := by decide +kernel
theorem dX7_init_5 : decode cX7_init 5 = .ok (.new 7, 3) := by decide +kernel
theorem dX7_init_8 : decode cX7_init 8 = .ok (.dup, 1) := by decide +kernel
theorem dX7_init_9 : decode cX7_init 9 = .ok (.invokespecial 9, 3) := by decide +kernel
theorem dX7_init_12 : decode cX7_init 12 = .ok (.putfield 10, 3) := by decide +kernel
theorem dX7_init_15 : decode cX7_init 15 = .ok (.aload_n 0, 1) := by decide +kernel
theorem dX7_init_16 : decode cX7_init 16 = .ok (.new 16, 3) := by decide +kernel
theorem dX7_init_19 : decode cX7_init 19 = .ok (.dup, 1) := by decide +kernel
theorem dX7_init_20 : decode cX7_init 20 = .ok (.invokespecial 18, 3) := by decide +kernel
theorem dX7_init_23 : decode cX7_init 23 = .ok (.putfield 19, 3) := by decide +kernel
theorem dX7_init_26 : decode cX7_init 26 = .ok (.aload_n 0, 1) := by decide +kernel
theorem dX7_init_27 : decode cX7_init 27 = .ok (.new 23, 3) := by decide +kernel
theorem dX7_init_30 : decode cX7_init 30 = .ok (.dup, 1) := by decide +kernel
theorem dX7_init_31 : decode cX7_init 31 = .ok (.invokespecial 25, 3) := by decide +kernel
theorem dX7_init_34 : decode cX7_init 34 = .ok (.putfield 26, 3) := by decide +kernel
theorem dX7_init_37 : decode cX7_init 37 = .ok (.aload_n 0, 1) := by decide +kernel
theorem dX7_init_38 : decode cX7_init 38 = .ok (.new 30, 3) := by decide +kernel
theorem dX7_init_41 : decode cX7_init 41 = .ok (.dup, 1) := by decide +kernel
theorem dX7_init_42 : decode cX7_init 42 = .ok (.invokespecial 32, 3) := by decide +kernel
theorem dX7_init_45 : decode cX7_init 45 = .ok (.putfield 33, 3) := by decide +kernel
theorem dX7_init_48 : decode cX7_init 48 = .ok (.new 37, 3) := by decide +kernel
theorem dX7_init_51 : decode cX7_init 51 = .ok (.dup, 1) := by decide +kernel
theorem dX7_init_52 : decode cX7_init 52 = .ok (.aload_n 0, 1) := by decide +kernel
theorem dX7_init_53 : decode cX7_init 53 = .ok (.getfield 10, 3) := by decide +kernel
theorem dX7_init_56 : decode cX7_init 56 = .ok (.aload_n 0, 1) := by decide +kernel
theorem dX7_init_57 : decode cX7_init 57 = .ok (.getfield 19, 3) := by decide +kernel
theorem dX7_init_60 : decode cX7_init 60 = .ok (.aload_n 0, 1) := by decide +kernel
theorem dX7_init_61 : decode cX7_init 61 = .ok (.getfield 26, 3) := by decide +kernel
theorem dX7_init_64 : decode cX7_init 64 = .ok (.aload_n 0, 1) := by decide +kernel
theorem dX7_init_65 : decode cX7_init 65 = .ok (.getfield 33, 3) := by decide +kernel
theorem dX7_init_68 : decode cX7_init 68 = .ok (.invokespecial 39, 3) := by decide +kernel
theorem dX7_init_71 : decode cX7_init 71 = .ok (.astore_n 1, 1) := by decide +kernel
theorem dX7_init_72 : decode cX7_init 72 = .ok (.aload_n 0, 1) := by decide +kernel
theorem dX7_init_73 : decode cX7_init 73 = .ok (.new 42, 3) := by decide +kernel
theorem dX7_init_76 : decode cX7_init 76 = .ok (.dup, 1) := by decide +kernel
theorem dX7_init_77 : decode cX7_init 77 = .ok (.aload_n 1, 1) := by decide +kernel
theorem dX7_init_78 : decode cX7_init 78 = .ok (.sipush 600, 3) := by decide +kernel
theorem dX7_init_81 : decode cX7_init 81 = .ok (.invokespecial 44, 3) := by decide +kernel
theorem dX7_init_84 : decode cX7_init 84 = .ok (.putfield 47, 3) := by decide +kernel
theorem dX7_init_87 : decode cX7_init 87 = .ok (.aload_n 0, 1) := by decide +kernel
theorem dX7_init_88 : decode cX7_init 88 = .ok (.new 42, 3) := by decide +kernel
theorem dX7_init_91 : decode cX7_init 91 = .ok (.dup, 1) := by decide +kernel
theorem dX7_init_92 : decode cX7_init 92 = .ok (.aload_n 1, 1) := by decide +kernel
theorem dX7_init_93 : decode cX7_init 93 = .ok (.iconst 0, 1) := by decide +kernel
theorem dX7_init_94 : decode cX7_init 94 = .ok (.invokespecial 44, 3) := by decide +kernel
theorem dX7_init_97 : decode cX7_init 97 = .ok (.putfield 51, 3) := by decide +kernel
theorem dX7_init_100 : decode cX7_init 100 = .ok (.return_, 1) := by decide +kernel
set_option maxRecDepth 20000 in
theorem ggX7_share_X7_isWork : GoodIn wsX7_share wsX7_isWork := goodIn_r _ [6] (by decide +kernel) (by decide +kernel)
set_option maxRecDepth 20000 in
theorem gX7_share_X7_isWork : GoodIn wsX7_share (va_wsS RX7 54 yX7_isWork wsX7_isWork) := goodIn_app (goodIn_of _ (by decide +kernel)) ggX7_share_X7_isWork
set_option maxRecDepth 20000 in
theorem ggX7_share_X7_isDayAhead : GoodIn wsX7_share wsX7_isDayAhead := goodIn_r _ [10, 11, 12, 39, 40, 41, 42, 43, 44, 45, 50, 51, 52, 53, 54, 55, 56, 57, 58, 59, 60, 61, 62, 63, 64, 65] (by decide +kernel) (by decide +kernel)
set_option maxRecDepth 20000 in
theorem gX7_share_X7_isDayAhead : GoodIn wsX7_share (wsV RX7 58 RX7 yX7_isDayAhead wsX7_isDayAhead) := goodIn_app (goodIn_of _ (by decide +kernel)) ggX7_share_X7_isDayAhead
set_option maxRecDepth 20000 in
theorem ggX7_share_X6_hasRoom : GoodIn wsX7_share wsX6_hasRoom := goodIn_r _ [17, 18, 19, 46, 47, 48, 49] (by decide +kernel) (by decide +kernel)
set_option maxRecDepth 20000 in
theorem gX7_share_X6_hasRoom : GoodIn wsX7_share (wsV RX7 61 RX6 yX6_hasRoom wsX6_hasRoom) := goodIn_app (goodIn_of _ (by decide +kernel)) ggX7_share_X6_hasRoom
set_option maxRecDepth 20000 in
theorem ggX7_share_X7_isHand : GoodIn wsX7_share wsX7_isHand := goodIn_r _ [22] (by decide +kernel) (by decide +kernel)
set_option maxRecDepth 20000 in
theorem gX7_share_X7_isHand : GoodIn wsX7_share (va_wsS RX7 65 yX7_isHand wsX7_isHand) := goodIn_app (goodIn_of _ (by decide +kernel)) ggX7_share_X7_isHand
set_option maxRecDepth 20000 in
theorem ggX7_share_X7_isPart : GoodIn wsX7_share wsX7_isPart := goodIn_r _ [25] (by decide +kernel) (by decide +kernel)
set_option maxRecDepth 20000 in
theorem gX7_share_X7_isPart : GoodIn wsX7_share (va_wsS RX7 68 yX7_isPart wsX7_isPart) := goodIn_app (goodIn_of _ (by decide +kernel)) ggX7_share_X7_isPart
set_option maxRecDepth 20000 in
theorem ggX7_share_X7_isSharer : GoodIn wsX7_share wsX7_isSharer := goodIn_r _ [28, 20, 21, 5, 22, 23, 24, 25] (by decide +kernel) (by decide +kernel)
set_option maxRecDepth 20000 in
theorem gX7_share_X7_isSharer : GoodIn wsX7_share (va_wsS RX7 71 yX7_isSharer wsX7_isSharer) := goodIn_app (goodIn_of _ (by decide +kernel)) ggX7_share_X7_isSharer
set_option maxRecDepth 20000 in
theorem ggX7_share_X6_addSet : GoodIn wsX7_share wsX6_addSet := goodIn_r _ [32, 18, 19, 46, 47, 48, 49] (by decide +kernel) (by decide +kernel)
set_option maxRecDepth 20000 in
theorem gX7_share_X6_addSet : GoodIn wsX7_share (wsV RX7 74 RX6 yX6_addSet wsX6_addSet) := goodIn_app (goodIn_of _ (by decide +kernel)) ggX7_share_X6_addSet
set_option maxRecDepth 20000 in
theorem ggX7_share_X6_put : GoodIn wsX7_share wsX6_put := goodIn_r _ [36, 37, 38, 46, 47, 48, 49] (by decide +kernel) (by decide +kernel)
set_option maxRecDepth 20000 in
theorem gX7_share_X6_put : GoodIn wsX7_share (wsV RX7 78 RX6 yX6_put wsX6_put) := goodIn_app (goodIn_of _ (by decide +kernel)) ggX7_share_X6_put
theorem dX7_share_0 : decode cX7_share 0 = .ok (.iload_n 1, 1) := by decide +kernel
theorem dX7_share_1 : decode cX7_share 1 = .ok (.invokestatic 54, 3) := by decide +kernel
theorem dX7_share_4 : decode cX7_share 4 = .ok (.ifCond .eq 23, 3) := by decide +kernel
theorem dX7_share_7 : decode cX7_share 7 = .ok (.aload_n 0, 1) := by decide +kernel
theorem dX7_share_8 : decode cX7_share 8 = .ok (.iload_n 2, 1) := by decide +kernel
theorem dX7_share_9 : decode cX7_share 9 = .ok (.invokevirtual 58, 3) := by decide +kernel
theorem dX7_share_12 : decode cX7_share 12 = .ok (.ifCond .eq 15, 3) := by decide +kernel
theorem dX7_share_15 : decode cX7_share 15 = .ok (.aload_n 0, 1) := by decide +kernel
theorem dX7_share_16 : decode cX7_share 16 = .ok (.getfield 10, 3) := by decide +kernel
theorem dX7_share_19 : decode cX7_share 19 = .ok (.iload_n 1, 1) := by decide +kernel
theorem dX7_share_20 : decode cX7_share 20 = .ok (.iload_n 2, 1) := by decide +kernel
theorem dX7_share_21 : decode cX7_share 21 = .ok (.invokevirtual 61, 3) := by decide +kernel
theorem dX7_share_24 : decode cX7_share 24 = .ok (.ifCond .ne 5, 3) := by decide +kernel
theorem dX7_share_27 : decode cX7_share 27 = .ok (.iconst (-1), 1) := by decide +kernel
theorem dX7_share_28 : decode cX7_share 28 = .ok (.ireturn, 1) := by decide +kernel
theorem dX7_share_29 : decode cX7_share 29 = .ok (.iload_n 3, 1) := by decide +kernel
theorem dX7_share_30 : decode cX7_share 30 = .ok (.invokestatic 65, 3) := by decide +kernel
theorem dX7_share_33 : decode cX7_share 33 = .ok (.ifCond .eq 31, 3) := by decide +kernel
theorem dX7_share_36 : decode cX7_share 36 = .ok (.iload 4, 2) := by decide +kernel
theorem dX7_share_38 : decode cX7_share 38 = .ok (.invokestatic 68, 3) := by decide +kernel
theorem dX7_share_41 : decode cX7_share 41 = .ok (.ifCond .eq 23, 3) := by decide +kernel
theorem dX7_share_44 : decode cX7_share 44 = .ok (.iload 5, 2) := by decide +kernel
theorem dX7_share_46 : decode cX7_share 46 = .ok (.iload 6, 2) := by decide +kernel
theorem dX7_share_48 : decode cX7_share 48 = .ok (.invokestatic 71, 3) := by decide +kernel
theorem dX7_share_51 : decode cX7_share 51 = .ok (.ifCond .eq 13, 3) := by decide +kernel
theorem dX7_share_54 : decode cX7_share 54 = .ok (.iload 7, 2) := by decide +kernel
theorem dX7_share_56 : decode cX7_share 56 = .ok (.iload 8, 2) := by decide +kernel
theorem dX7_share_58 : decode cX7_share 58 = .ok (.invokestatic 71, 3) := by decide +kernel
theorem dX7_share_61 : decode cX7_share 61 = .ok (.ifCond .ne 5, 3) := by decide +kernel
theorem dX7_share_64 : decode cX7_share 64 = .ok (.iconst (-1), 1) := by decide +kernel
theorem dX7_share_65 : decode cX7_share 65 = .ok (.ireturn, 1) := by decide +kernel
theorem dX7_share_66 : decode cX7_share 66 = .ok (.iload 5, 2) := by decide +kernel
theorem dX7_share_68 : decode cX7_share 68 = .ok (.iconst (-1), 1) := by decide +kernel
theorem dX7_share_69 : decode cX7_share 69 = .ok (.if_icmp .ne 13, 3) := by decide +kernel
theorem dX7_share_72 : decode cX7_share 72 = .ok (.iload 7, 2) := by decide +kernel
theorem dX7_share_74 : decode cX7_share 74 = .ok (.iconst (-1), 1) := by decide +kernel
theorem dX7_share_75 : decode cX7_share 75 = .ok (.if_icmp .eq 7, 3) := by decide +kernel
theorem dX7_share_78 : decode cX7_share 78 = .ok (.iconst 1, 1) := by decide +kernel
theorem dX7_share_79 : decode cX7_share 79 = .ok (.goto 4, 3) := by decide +kernel
theorem dX7_share_82 : decode cX7_share 82 = .ok (.iconst 0, 1) := by decide +kernel
theorem dX7_share_83 : decode cX7_share 83 = .ok (.istore 9, 2) := by decide +kernel
theorem dX7_share_85 : decode cX7_share 85 = .ok (.iload_n 3, 1) := by decide +kernel
theorem dX7_share_86 : decode cX7_share 86 = .ok (.iload 5, 2) := by decide +kernel
theorem dX7_share_88 : decode cX7_share 88 = .ok (.if_icmp .eq 22, 3) := by decide +kernel
theorem dX7_share_91 : decode cX7_share 91 = .ok (.iload_n 3, 1) := by decide +kernel
theorem dX7_share_92 : decode cX7_share 92 = .ok (.iload 7, 2) := by decide +kernel
theorem dX7_share_94 : decode cX7_share 94 = .ok (.if_icmp .eq 16, 3) := by decide +kernel
theorem dX7_share_97 : decode cX7_share 97 = .ok (.iload 5, 2) := by decide +kernel
theorem dX7_share_99 : decode cX7_share 99 = .ok (.iconst (-1), 1) := by decide +kernel
theorem dX7_share_100 : decode cX7_share 100 = .ok (.if_icmp .eq 14, 3) := by decide +kernel
theorem dX7_share_103 : decode cX7_share 103 = .ok (.iload 5, 2) := by decide +kernel
theorem dX7_share_105 : decode cX7_share 105 = .ok (.iload 7, 2) := by decide +kernel
theorem dX7_share_107 : decode cX7_share 107 = .ok (.if_icmp .ne 7, 3) := by decide +kernel
theorem dX7_share_110 : decode cX7_share 110 = .ok (.iconst 1, 1) := by decide +kernel
theorem dX7_share_111 : decode cX7_share 111 = .ok (.goto 4, 3) := by decide +kernel
theorem dX7_share_114 : decode cX7_share 114 = .ok (.iconst 0, 1) := by decide +kernel
theorem dX7_share_115 : decode cX7_share 115 = .ok (.istore 10, 2) := by decide +kernel
theorem dX7_share_117 : decode cX7_share 117 = .ok (.iload 9, 2) := by decide +kernel
theorem dX7_share_119 : decode cX7_share 119 = .ok (.ifCond .ne 22, 3) := by decide +kernel
theorem dX7_share_122 : decode cX7_share 122 = .ok (.iload 10, 2) := by decide +kernel
theorem dX7_share_124 : decode cX7_share 124 = .ok (.ifCond .ne 17, 3) := by decide +kernel
theorem dX7_share_127 : decode cX7_share 127 = .ok (.iload 4, 2) := by decide +kernel
theorem dX7_share_129 : decode cX7_share 129 = .ok (.iload 6, 2) := by decide +kernel
theorem dX7_share_131 : decode cX7_share 131 = .ok (.iadd, 1) := by decide +kernel
theorem dX7_share_132 : decode cX7_share 132 = .ok (.iload 8, 2) := by decide +kernel
theorem dX7_share_134 : decode cX7_share 134 = .ok (.iadd, 1) := by decide +kernel
theorem dX7_share_135 : decode cX7_share 135 = .ok (.sipush 1000, 3) := by decide +kernel
theorem dX7_share_138 : decode cX7_share 138 = .ok (.if_icmp .eq 5, 3) := by decide +kernel
theorem dX7_share_141 : decode cX7_share 141 = .ok (.iconst (-1), 1) := by decide +kernel
theorem dX7_share_142 : decode cX7_share 142 = .ok (.ireturn, 1) := by decide +kernel
theorem dX7_share_143 : decode cX7_share 143 = .ok (.aload_n 0, 1) := by decide +kernel
theorem dX7_share_144 : decode cX7_share 144 = .ok (.getfield 10, 3) := by decide +kernel
theorem dX7_share_147 : decode cX7_share 147 = .ok (.iload_n 1, 1) := by decide +kernel
theorem dX7_share_148 : decode cX7_share 148 = .ok (.iload_n 2, 1) := by decide +kernel
theorem dX7_share_149 : decode cX7_share 149 = .ok (.invokevirtual 74, 3) := by decide +kernel
theorem dX7_share_152 : decode cX7_share 152 = .ok (.istore 11, 2) := by decide +kernel
theorem dX7_share_154 : decode cX7_share 154 = .ok (.aload_n 0, 1) := by decide +kernel
theorem dX7_share_155 : decode cX7_share 155 = .ok (.getfield 10, 3) := by decide +kernel
theorem dX7_share_158 : decode cX7_share 158 = .ok (.iload 11, 2) := by decide +kernel
theorem dX7_share_160 : decode cX7_share 160 = .ok (.iconst 0, 1) := by decide +kernel
theorem dX7_share_161 : decode cX7_share 161 = .ok (.iload_n 3, 1) := by decide +kernel
theorem dX7_share_162 : decode cX7_share 162 = .ok (.iload 4, 2) := by decide +kernel
theorem dX7_share_164 : decode cX7_share 164 = .ok (.invokevirtual 78, 3) := by decide +kernel
theorem dX7_share_167 : decode cX7_share 167 = .ok (.aload_n 0, 1) := by decide +kernel
theorem dX7_share_168 : decode cX7_share 168 = .ok (.getfield 10, 3) := by decide +kernel
theorem dX7_share_171 : decode cX7_share 171 = .ok (.iload 11, 2) := by decide +kernel
theorem dX7_share_173 : decode cX7_share 173 = .ok (.iconst 1, 1) := by decide +kernel
theorem dX7_share_174 : decode cX7_share 174 = .ok (.iload 5, 2) := by decide +kernel
theorem dX7_share_176 : decode cX7_share 176 = .ok (.iload 6, 2) := by decide +kernel
theorem dX7_share_178 : decode cX7_share 178 = .ok (.invokevirtual 78, 3) := by decide +kernel
theorem dX7_share_181 : decode cX7_share 181 = .ok (.aload_n 0, 1) := by decide +kernel
theorem dX7_share_182 : decode cX7_share 182 = .ok (.getfield 10, 3) := by decide +kernel
theorem dX7_share_185 : decode cX7_share 185 = .ok (.iload 11, 2) := by decide +kernel
theorem dX7_share_187 : decode cX7_share 187 = .ok (.iconst 2, 1) := by decide +kernel
theorem dX7_share_188 : decode cX7_share 188 = .ok (.iload 7, 2) := by decide +kernel
theorem dX7_share_190 : decode cX7_share 190 = .ok (.iload 8, 2) := by decide +kernel
theorem dX7_share_192 : decode cX7_share 192 = .ok (.invokevirtual 78, 3) := by decide +kernel
theorem dX7_share_195 : decode cX7_share 195 = .ok (.aload_n 0, 1) := by decide +kernel
theorem dX7_share_196 : decode cX7_share 196 = .ok (.getfield 10, 3) := by decide +kernel
theorem dX7_share_199 : decode cX7_share 199 = .ok (.getfield 82, 3) := by decide +kernel
theorem dX7_share_202 : decode cX7_share 202 = .ok (.iload_n 1, 1) := by decide +kernel
theorem dX7_share_203 : decode cX7_share 203 = .ok (.iaload, 1) := by decide +kernel
theorem dX7_share_204 : decode cX7_share 204 = .ok (.ireturn, 1) := by decide +kernel
set_option maxRecDepth 20000 in
theorem ggX7_bargain_X7_isHand : GoodIn wsX7_bargain wsX7_isHand := goodIn_r _ [6] (by decide +kernel) (by decide +kernel)
set_option maxRecDepth 20000 in
theorem gX7_bargain_X7_isHand : GoodIn wsX7_bargain (va_wsS RX7 65 yX7_isHand wsX7_isHand) := goodIn_app (goodIn_of _ (by decide +kernel)) ggX7_bargain_X7_isHand
set_option maxRecDepth 20000 in
theorem ggX7_bargain_X7_isDayAhead : GoodIn wsX7_bargain wsX7_isDayAhead := goodIn_r _ [10, 11, 12, 44, 45, 46, 47, 48, 49, 50, 60, 61, 62, 63, 64, 65, 66, 67, 68, 69, 70, 71, 72, 73, 74, 75] (by decide +kernel) (by decide +kernel)
set_option maxRecDepth 20000 in
theorem gX7_bargain_X7_isDayAhead : GoodIn wsX7_bargain (wsV RX7 58 RX7 yX7_isDayAhead wsX7_isDayAhead) := goodIn_app (goodIn_of _ (by decide +kernel)) ggX7_bargain_X7_isDayAhead
set_option maxRecDepth 20000 in
theorem ggX7_bargain_X7_termsFit : GoodIn wsX7_bargain wsX7_termsFit := goodIn_r _ [15, 16, 17, 5, 18, 19, 20, 21, 22] (by decide +kernel) (by decide +kernel)
set_option maxRecDepth 20000 in
theorem gX7_bargain_X7_termsFit : GoodIn wsX7_bargain (va_wsS RX7 90 yX7_termsFit wsX7_termsFit) := goodIn_app (goodIn_of _ (by decide +kernel)) ggX7_bargain_X7_termsFit
set_option maxRecDepth 20000 in
theorem ggX7_bargain_X7_passesOn : GoodIn wsX7_bargain wsX7_passesOn := goodIn_r _ [25] (by decide +kernel) (by decide +kernel)
set_option maxRecDepth 20000 in
theorem gX7_bargain_X7_passesOn : GoodIn wsX7_bargain (va_wsS RX7 94 yX7_passesOn wsX7_passesOn) := goodIn_app (goodIn_of _ (by decide +kernel)) ggX7_bargain_X7_passesOn
set_option maxRecDepth 20000 in
theorem ggX7_bargain_X0_add : GoodIn wsX7_bargain wsX0_add := goodIn_r _ [30, 31, 32, 33, 34, 35, 51, 52, 53, 54, 55, 56, 57, 58, 59] (by decide +kernel) (by decide +kernel)
set_option maxRecDepth 20000 in
theorem gX7_bargain_X0_add : GoodIn wsX7_bargain (wsV RX7 97 RX0 yX0_add wsX0_add) := goodIn_app (goodIn_of _ (by decide +kernel)) ggX7_bargain_X0_add
set_option maxRecDepth 20000 in
theorem ggX7_bargain_X0_agree : GoodIn wsX7_bargain wsX0_agree := goodIn_r _ [39, 40, 41, 42, 43, 51, 52, 53, 54, 55, 56, 57, 58, 59] (by decide +kernel) (by decide +kernel)
set_option maxRecDepth 20000 in
theorem gX7_bargain_X0_agree : GoodIn wsX7_bargain (wsV RX7 101 RX0 yX0_agree wsX0_agree) := goodIn_app (goodIn_of _ (by decide +kernel)) ggX7_bargain_X0_agree
theorem dX7_bargain_0 : decode cX7_bargain 0 = .ok (.iload_n 1, 1) := by decide +kernel
theorem dX7_bargain_1 : decode cX7_bargain 1 = .ok (.ifCond .lt 27, 3) := by decide +kernel
theorem dX7_bargain_4 : decode cX7_bargain 4 = .ok (.iload_n 1, 1) := by decide +kernel
theorem dX7_bargain_5 : decode cX7_bargain 5 = .ok (.iconst 4, 1) := by decide +kernel
theorem dX7_bargain_6 : decode cX7_bargain 6 = .ok (.if_icmp .gt 22, 3) := by decide +kernel
theorem dX7_bargain_9 : decode cX7_bargain 9 = .ok (.iload_n 2, 1) := by decide +kernel
theorem dX7_bargain_10 : decode cX7_bargain 10 = .ok (.invokestatic 65, 3) := by decide +kernel
theorem dX7_bargain_13 : decode cX7_bargain 13 = .ok (.ifCond .eq 15, 3) := by decide +kernel
theorem dX7_bargain_16 : decode cX7_bargain 16 = .ok (.iload_n 3, 1) := by decide +kernel
theorem dX7_bargain_17 : decode cX7_bargain 17 = .ok (.iconst 1, 1) := by decide +kernel
theorem dX7_bargain_18 : decode cX7_bargain 18 = .ok (.if_icmp .lt 10, 3) := by decide +kernel
theorem dX7_bargain_21 : decode cX7_bargain 21 = .ok (.iload_n 3, 1) := by decide +kernel
theorem dX7_bargain_22 : decode cX7_bargain 22 = .ok (.sipush 4095, 3) := by decide +kernel
theorem dX7_bargain_25 : decode cX7_bargain 25 = .ok (.if_icmp .le 5, 3) := by decide +kernel
theorem dX7_bargain_28 : decode cX7_bargain 28 = .ok (.iconst (-1), 1) := by decide +kernel
theorem dX7_bargain_29 : decode cX7_bargain 29 = .ok (.ireturn, 1) := by decide +kernel
theorem dX7_bargain_30 : decode cX7_bargain 30 = .ok (.aload_n 0, 1) := by decide +kernel
theorem dX7_bargain_31 : decode cX7_bargain 31 = .ok (.iload 4, 2) := by decide +kernel
theorem dX7_bargain_33 : decode cX7_bargain 33 = .ok (.invokevirtual 58, 3) := by decide +kernel
theorem dX7_bargain_36 : decode cX7_bargain 36 = .ok (.ifCond .eq 28, 3) := by decide +kernel
theorem dX7_bargain_39 : decode cX7_bargain 39 = .ok (.aload_n 0, 1) := by decide +kernel
theorem dX7_bargain_40 : decode cX7_bargain 40 = .ok (.getfield 19, 3) := by decide +kernel
theorem dX7_bargain_43 : decode cX7_bargain 43 = .ok (.getfield 86, 3) := by decide +kernel
theorem dX7_bargain_46 : decode cX7_bargain 46 = .ok (.bipush 24, 2) := by decide +kernel
theorem dX7_bargain_48 : decode cX7_bargain 48 = .ok (.if_icmp .ge 16, 3) := by decide +kernel
theorem dX7_bargain_51 : decode cX7_bargain 51 = .ok (.iload_n 1, 1) := by decide +kernel
theorem dX7_bargain_52 : decode cX7_bargain 52 = .ok (.iload 5, 2) := by decide +kernel
theorem dX7_bargain_54 : decode cX7_bargain 54 = .ok (.iload 6, 2) := by decide +kernel
theorem dX7_bargain_56 : decode cX7_bargain 56 = .ok (.iload 7, 2) := by decide +kernel
theorem dX7_bargain_58 : decode cX7_bargain 58 = .ok (.invokestatic 90, 3) := by decide +kernel
theorem dX7_bargain_61 : decode cX7_bargain 61 = .ok (.ifCond .ne 5, 3) := by decide +kernel
theorem dX7_bargain_64 : decode cX7_bargain 64 = .ok (.iconst (-1), 1) := by decide +kernel
theorem dX7_bargain_65 : decode cX7_bargain 65 = .ok (.ireturn, 1) := by decide +kernel
theorem dX7_bargain_66 : decode cX7_bargain 66 = .ok (.iload_n 1, 1) := by decide +kernel
theorem dX7_bargain_67 : decode cX7_bargain 67 = .ok (.invokestatic 94, 3) := by decide +kernel
theorem dX7_bargain_70 : decode cX7_bargain 70 = .ok (.ifCond .eq 19, 3) := by decide +kernel
theorem dX7_bargain_73 : decode cX7_bargain 73 = .ok (.iload 8, 2) := by decide +kernel
theorem dX7_bargain_75 : decode cX7_bargain 75 = .ok (.invokestatic 65, 3) := by decide +kernel
theorem dX7_bargain_78 : decode cX7_bargain 78 = .ok (.ifCond .eq 9, 3) := by decide +kernel
theorem dX7_bargain_81 : decode cX7_bargain 81 = .ok (.iload 8, 2) := by decide +kernel
theorem dX7_bargain_83 : decode cX7_bargain 83 = .ok (.iload_n 2, 1) := by decide +kernel
theorem dX7_bargain_84 : decode cX7_bargain 84 = .ok (.if_icmp .ne 5, 3) := by decide +kernel
theorem dX7_bargain_87 : decode cX7_bargain 87 = .ok (.iconst (-1), 1) := by decide +kernel
theorem dX7_bargain_88 : decode cX7_bargain 88 = .ok (.ireturn, 1) := by decide +kernel
theorem dX7_bargain_89 : decode cX7_bargain 89 = .ok (.aload_n 0, 1) := by decide +kernel
theorem dX7_bargain_90 : decode cX7_bargain 90 = .ok (.getfield 19, 3) := by decide +kernel
theorem dX7_bargain_93 : decode cX7_bargain 93 = .ok (.iload_n 1, 1) := by decide +kernel
theorem dX7_bargain_94 : decode cX7_bargain 94 = .ok (.iload_n 2, 1) := by decide +kernel
theorem dX7_bargain_95 : decode cX7_bargain 95 = .ok (.iload_n 3, 1) := by decide +kernel
theorem dX7_bargain_96 : decode cX7_bargain 96 = .ok (.iload 4, 2) := by decide +kernel
theorem dX7_bargain_98 : decode cX7_bargain 98 = .ok (.invokevirtual 97, 3) := by decide +kernel
theorem dX7_bargain_101 : decode cX7_bargain 101 = .ok (.istore 9, 2) := by decide +kernel
theorem dX7_bargain_103 : decode cX7_bargain 103 = .ok (.aload_n 0, 1) := by decide +kernel
theorem dX7_bargain_104 : decode cX7_bargain 104 = .ok (.getfield 19, 3) := by decide +kernel
theorem dX7_bargain_107 : decode cX7_bargain 107 = .ok (.iload 9, 2) := by decide +kernel
theorem dX7_bargain_109 : decode cX7_bargain 109 = .ok (.iload 5, 2) := by decide +kernel
theorem dX7_bargain_111 : decode cX7_bargain 111 = .ok (.iload 6, 2) := by decide +kernel
theorem dX7_bargain_113 : decode cX7_bargain 113 = .ok (.iload 7, 2) := by decide +kernel
theorem dX7_bargain_115 : decode cX7_bargain 115 = .ok (.iload 8, 2) := by decide +kernel
theorem dX7_bargain_117 : decode cX7_bargain 117 = .ok (.invokevirtual 101, 3) := by decide +kernel
theorem dX7_bargain_120 : decode cX7_bargain 120 = .ok (.iload 9, 2) := by decide +kernel
theorem dX7_bargain_122 : decode cX7_bargain 122 = .ok (.ireturn, 1) := by decide +kernel
set_option maxRecDepth 20000 in
theorem ggX7_report_X7_reportFits : GoodIn wsX7_report wsX7_reportFits := goodIn_r _ [8, 9, 10, 11, 12, 7, 13, 14, 15, 16, 17, 28, 29, 30, 31, 32, 33, 34, 51, 52, 53, 54] (by decide +kernel) (by decide +kernel)
set_option maxRecDepth 20000 in
theorem gX7_report_X7_reportFits : GoodIn wsX7_report (wsV RX7 108 RX7 yX7_reportFits wsX7_reportFits) := goodIn_app (goodIn_of _ (by decide +kernel)) ggX7_report_X7_reportFits
set_option maxRecDepth 20000 in
theorem ggX7_report_X4_put : GoodIn wsX7_report wsX4_put := goodIn_r _ [22, 23, 24, 25, 26, 27, 55, 56, 57, 58, 59, 60] (by decide +kernel) (by decide +kernel)
set_option maxRecDepth 20000 in
theorem gX7_report_X4_put : GoodIn wsX7_report (wsV RX7 112 RX4 yX4_put wsX4_put) := goodIn_app (goodIn_of _ (by decide +kernel)) ggX7_report_X4_put
theorem dX7_report_0 : decode cX7_report 0 = .ok (.aload_n 0, 1) := by decide +kernel
theorem dX7_report_1 : decode cX7_report 1 = .ok (.getfield 47, 3) := by decide +kernel
theorem dX7_report_4 : decode cX7_report 4 = .ok (.getfield 105, 3) := by decide +kernel
theorem dX7_report_7 : decode cX7_report 7 = .ok (.istore 6, 2) := by decide +kernel
theorem dX7_report_9 : decode cX7_report 9 = .ok (.iload 6, 2) := by decide +kernel
theorem dX7_report_11 : decode cX7_report 11 = .ok (.bipush 40, 2) := by decide +kernel
theorem dX7_report_13 : decode cX7_report 13 = .ok (.if_icmp .ge 17, 3) := by decide +kernel
theorem dX7_report_16 : decode cX7_report 16 = .ok (.aload_n 0, 1) := by decide +kernel
theorem dX7_report_17 : decode cX7_report 17 = .ok (.iload_n 1, 1) := by decide +kernel
theorem dX7_report_18 : decode cX7_report 18 = .ok (.iload_n 2, 1) := by decide +kernel
theorem dX7_report_19 : decode cX7_report 19 = .ok (.iload_n 3, 1) := by decide +kernel
theorem dX7_report_20 : decode cX7_report 20 = .ok (.iload 4, 2) := by decide +kernel
theorem dX7_report_22 : decode cX7_report 22 = .ok (.iload 5, 2) := by decide +kernel
theorem dX7_report_24 : decode cX7_report 24 = .ok (.invokevirtual 108, 3) := by decide +kernel
theorem dX7_report_27 : decode cX7_report 27 = .ok (.ifCond .ne 5, 3) := by decide +kernel
theorem dX7_report_30 : decode cX7_report 30 = .ok (.iconst 0, 1) := by decide +kernel
theorem dX7_report_31 : decode cX7_report 31 = .ok (.ireturn, 1) := by decide +kernel
theorem dX7_report_32 : decode cX7_report 32 = .ok (.aload_n 0, 1) := by decide +kernel
theorem dX7_report_33 : decode cX7_report 33 = .ok (.getfield 26, 3) := by decide +kernel
theorem dX7_report_36 : decode cX7_report 36 = .ok (.iload 6, 2) := by decide +kernel
theorem dX7_report_38 : decode cX7_report 38 = .ok (.iload_n 1, 1) := by decide +kernel
theorem dX7_report_39 : decode cX7_report 39 = .ok (.iload_n 2, 1) := by decide +kernel
theorem dX7_report_40 : decode cX7_report 40 = .ok (.iload_n 3, 1) := by decide +kernel
theorem dX7_report_41 : decode cX7_report 41 = .ok (.iload 4, 2) := by decide +kernel
theorem dX7_report_43 : decode cX7_report 43 = .ok (.iload 5, 2) := by decide +kernel
theorem dX7_report_45 : decode cX7_report 45 = .ok (.invokevirtual 112, 3) := by decide +kernel
theorem dX7_report_48 : decode cX7_report 48 = .ok (.iconst 1, 1) := by decide +kernel
theorem dX7_report_49 : decode cX7_report 49 = .ok (.ireturn, 1) := by decide +kernel
set_option maxRecDepth 20000 in
theorem ggX7_tear_X4_tearAt : GoodIn wsX7_tear wsX4_tearAt := goodIn_r _ [12, 13, 37, 38, 39, 40, 41, 42] (by decide +kernel) (by decide +kernel)
set_option maxRecDepth 20000 in
theorem gX7_tear_X4_tearAt : GoodIn wsX7_tear (wsV RX7 120 RX4 yX4_tearAt wsX4_tearAt) := goodIn_app (goodIn_of _ (by decide +kernel)) ggX7_tear_X4_tearAt
theorem dX7_tear_0 : decode cX7_tear 0 = .ok (.aload_n 0, 1) := by decide +kernel
theorem dX7_tear_1 : decode cX7_tear 1 = .ok (.getfield 47, 3) := by decide +kernel
theorem dX7_tear_4 : decode cX7_tear 4 = .ok (.getfield 105, 3) := by decide +kernel
theorem dX7_tear_7 : decode cX7_tear 7 = .ok (.istore_n 2, 1) := by decide +kernel
theorem dX7_tear_8 : decode cX7_tear 8 = .ok (.iload_n 2, 1) := by decide +kernel
theorem dX7_tear_9 : decode cX7_tear 9 = .ok (.bipush 40, 2) := by decide +kernel
theorem dX7_tear_11 : decode cX7_tear 11 = .ok (.if_icmp .ge 14, 3) := by decide +kernel
theorem dX7_tear_14 : decode cX7_tear 14 = .ok (.iload_n 1, 1) := by decide +kernel
theorem dX7_tear_15 : decode cX7_tear 15 = .ok (.iconst (-1), 1) := by decide +kernel
theorem dX7_tear_16 : decode cX7_tear 16 = .ok (.if_icmp .lt 9, 3) := by decide +kernel
theorem dX7_tear_19 : decode cX7_tear 19 = .ok (.iload_n 1, 1) := by decide +kernel
theorem dX7_tear_20 : decode cX7_tear 20 = .ok (.bipush 12, 2) := by decide +kernel
theorem dX7_tear_22 : decode cX7_tear 22 = .ok (.if_icmp .le 5, 3) := by decide +kernel
theorem dX7_tear_25 : decode cX7_tear 25 = .ok (.iconst 0, 1) := by decide +kernel
theorem dX7_tear_26 : decode cX7_tear 26 = .ok (.ireturn, 1) := by decide +kernel
theorem dX7_tear_27 : decode cX7_tear 27 = .ok (.aload_n 0, 1) := by decide +kernel
theorem dX7_tear_28 : decode cX7_tear 28 = .ok (.getfield 26, 3) := by decide +kernel
theorem dX7_tear_31 : decode cX7_tear 31 = .ok (.iload_n 2, 1) := by decide +kernel
theorem dX7_tear_32 : decode cX7_tear 32 = .ok (.iload_n 1, 1) := by decide +kernel
theorem dX7_tear_33 : decode cX7_tear 33 = .ok (.iconst 0, 1) := by decide +kernel
theorem dX7_tear_34 : decode cX7_tear 34 = .ok (.invokestatic 115, 3) := by decide +kernel
theorem dX7_tear_37 : decode cX7_tear 37 = .ok (.invokevirtual 120, 3) := by decide +kernel
theorem dX7_tear_40 : decode cX7_tear 40 = .ok (.iconst 1, 1) := by decide +kernel
theorem dX7_tear_41 : decode cX7_tear 41 = .ok (.ireturn, 1) := by decide +kernel
set_option maxRecDepth 20000 in
theorem ggX7_sent_X7_isHand : GoodIn wsX7_sent wsX7_isHand := goodIn_r _ [10] (by decide +kernel) (by decide +kernel)
set_option maxRecDepth 20000 in
theorem gX7_sent_X7_isHand : GoodIn wsX7_sent (va_wsS RX7 65 yX7_isHand wsX7_isHand) := goodIn_app (goodIn_of _ (by decide +kernel)) ggX7_sent_X7_isHand
set_option maxRecDepth 20000 in
theorem ggX7_sent_X7_isSum : GoodIn wsX7_sent wsX7_isSum := goodIn_r _ [13, 14] (by decide +kernel) (by decide +kernel)
set_option maxRecDepth 20000 in
theorem gX7_sent_X7_isSum : GoodIn wsX7_sent (va_wsS RX7 124 yX7_isSum wsX7_isSum) := goodIn_app (goodIn_of _ (by decide +kernel)) ggX7_sent_X7_isSum
set_option maxRecDepth 20000 in
theorem ggX7_sent_X5_add : GoodIn wsX7_sent wsX5_add := goodIn_r _ [19, 20, 21, 22, 23, 24, 188, 189, 190, 191, 192] (by decide +kernel) (by decide +kernel)
set_option maxRecDepth 20000 in
theorem gX7_sent_X5_add : GoodIn wsX7_sent (wsV RX7 130 RX5 yX5_add wsX5_add) := goodIn_app (goodIn_of _ (by decide +kernel)) ggX7_sent_X5_add
set_option maxRecDepth 20000 in
theorem ggX7_sent_X2_reckonTo : GoodIn wsX7_sent wsX2_reckonTo := goodIn_r _ [29, 30, 31, 32, 33, 34, 35, 36, 37, 28, 38, 39, 40, 41, 42, 43, 44, 45, 46, 47, 48, 49, 50, 51, 52, 53, 54, 55, 56, 57, 58, 59, 60, 61, 62, 63, 64, 65, 66, 67, 68, 69, 70, 71, 72, 73, 74, 75, 76, 77, 78, 79, 80, 81, 82, 83, 84, 85, 86, 87, 88, 89, 90, 91, 92, 93, 94, 95, 96, 97, 98, 99, 100, 101, 102, 103, 104, 105, 106, 107, 108, 109, 110, 111, 112, 113, 114, 115, 116, 117, 118, 119, 120, 121, 122, 123, 124, 125, 126, 127, 128, 129, 130, 131, 132, 133, 134, 135, 136, 137, 138, 9, 139, 140, 141, 142, 143, 144, 145, 146, 147, 148, 149, 150, 151, 152, 153, 154, 155, 156, 157, 158, 159, 160, 161, 162, 163, 164, 165, 166, 167, 168, 169, 170, 171, 172, 173, 174, 175, 176, 177, 178, 179, 180, 193, 194, 195, 196, 197, 198, 199, 200, 201, 202, 203, 204, 205, 206, 207, 208, 188, 189, 190, 191, 192, 209, 210, 211, 212, 213, 214, 215, 216, 217, 218, 219, 220, 221, 222, 223, 224, 225, 226, 227, 228, 229, 230, 231, 232, 233, 234] (by decide +kernel) (by decide +kernel)
set_option maxRecDepth 20000 in
theorem gX7_sent_X2_reckonTo : GoodIn wsX7_sent (wsV RX7 133 RX2 yX2_reckonTo wsX2_reckonTo) := goodIn_app (goodIn_of _ (by decide +kernel)) ggX7_sent_X2_reckonTo
theorem dX7_sent_0 : decode cX7_sent 0 = .ok (.iload_n 1, 1) := by decide +kernel
theorem dX7_sent_1 : decode cX7_sent 1 = .ok (.invokestatic 65, 3) := by decide +kernel
theorem dX7_sent_4 : decode cX7_sent 4 = .ok (.ifCond .eq 22, 3) := by decide +kernel
theorem dX7_sent_7 : decode cX7_sent 7 = .ok (.iload_n 2, 1) := by decide +kernel
theorem dX7_sent_8 : decode cX7_sent 8 = .ok (.invokestatic 124, 3) := by decide +kernel
theorem dX7_sent_11 : decode cX7_sent 11 = .ok (.ifCond .eq 15, 3) := by decide +kernel
theorem dX7_sent_14 : decode cX7_sent 14 = .ok (.aload_n 0, 1) := by decide +kernel
theorem dX7_sent_15 : decode cX7_sent 15 = .ok (.getfield 33, 3) := by decide +kernel
theorem dX7_sent_18 : decode cX7_sent 18 = .ok (.getfield 127, 3) := by decide +kernel
theorem dX7_sent_21 : decode cX7_sent 21 = .ok (.bipush 60, 2) := by decide +kernel
theorem dX7_sent_23 : decode cX7_sent 23 = .ok (.if_icmp .lt 7, 3) := by decide +kernel
theorem dX7_sent_26 : decode cX7_sent 26 = .ok (.ldc2_w 128, 3) := by decide +kernel
theorem dX7_sent_29 : decode cX7_sent 29 = .ok (.lreturn, 1) := by decide +kernel
theorem dX7_sent_30 : decode cX7_sent 30 = .ok (.aload_n 0, 1) := by decide +kernel
theorem dX7_sent_31 : decode cX7_sent 31 = .ok (.getfield 47, 3) := by decide +kernel
theorem dX7_sent_34 : decode cX7_sent 34 = .ok (.getfield 105, 3) := by decide +kernel
theorem dX7_sent_37 : decode cX7_sent 37 = .ok (.istore_n 3, 1) := by decide +kernel
theorem dX7_sent_38 : decode cX7_sent 38 = .ok (.aload_n 0, 1) := by decide +kernel
theorem dX7_sent_39 : decode cX7_sent 39 = .ok (.getfield 33, 3) := by decide +kernel
theorem dX7_sent_42 : decode cX7_sent 42 = .ok (.iload_n 1, 1) := by decide +kernel
theorem dX7_sent_43 : decode cX7_sent 43 = .ok (.iload_n 2, 1) := by decide +kernel
theorem dX7_sent_44 : decode cX7_sent 44 = .ok (.iload_n 3, 1) := by decide +kernel
theorem dX7_sent_45 : decode cX7_sent 45 = .ok (.invokevirtual 130, 3) := by decide +kernel
theorem dX7_sent_48 : decode cX7_sent 48 = .ok (.aload_n 0, 1) := by decide +kernel
theorem dX7_sent_49 : decode cX7_sent 49 = .ok (.getfield 47, 3) := by decide +kernel
theorem dX7_sent_52 : decode cX7_sent 52 = .ok (.iload_n 3, 1) := by decide +kernel
theorem dX7_sent_53 : decode cX7_sent 53 = .ok (.invokevirtual 133, 3) := by decide +kernel
theorem dX7_sent_56 : decode cX7_sent 56 = .ok (.aload_n 0, 1) := by decide +kernel
theorem dX7_sent_57 : decode cX7_sent 57 = .ok (.getfield 47, 3) := by decide +kernel
theorem dX7_sent_60 : decode cX7_sent 60 = .ok (.getfield 137, 3) := by decide +kernel
theorem dX7_sent_63 : decode cX7_sent 63 = .ok (.lreturn, 1) := by decide +kernel
set_option maxRecDepth 20000 in
theorem ggX7_close_X2_reckonTo : GoodIn wsX7_close wsX2_reckonTo := goodIn_r _ [7, 8, 9, 10, 11, 12, 13, 14, 15, 6, 16, 17, 18, 19, 20, 21, 22, 23, 24, 25, 26, 27, 28, 29, 30, 31, 32, 33, 34, 35, 36, 37, 38, 39, 40, 41, 42, 43, 44, 45, 46, 47, 48, 49, 50, 51, 52, 53, 54, 55, 56, 57, 58, 59, 60, 61, 62, 63, 64, 65, 66, 67, 68, 69, 70, 71, 72, 73, 74, 75, 76, 77, 78, 79, 80, 81, 82, 83, 84, 85, 86, 87, 88, 89, 90, 91, 92, 93, 94, 95, 96, 97, 98, 99, 100, 101, 102, 103, 104, 105, 106, 107, 108, 109, 110, 111, 112, 113, 114, 115, 116, 117, 118, 119, 120, 121, 122, 123, 124, 125, 126, 127, 128, 129, 130, 131, 132, 133, 134, 135, 136, 137, 138, 139, 140, 141, 142, 143, 144, 145, 146, 147, 148, 149, 150, 151, 152, 153, 154, 155, 156, 157, 158, 159, 167, 168, 169, 170, 171, 172, 173, 174, 175, 176, 177, 178, 179, 180, 181, 182, 183, 184, 185, 186, 187, 188, 189, 190, 191, 192, 193, 194, 195, 196, 197, 198, 199, 200, 201, 202, 203, 204, 205, 206, 207, 208, 209, 210, 211, 212, 213] (by decide +kernel) (by decide +kernel)
set_option maxRecDepth 20000 in
theorem gX7_close_X2_reckonTo : GoodIn wsX7_close (wsV RX7 133 RX2 yX2_reckonTo wsX2_reckonTo) := goodIn_app (goodIn_of _ (by decide +kernel)) ggX7_close_X2_reckonTo
theorem dX7_close_0 : decode cX7_close 0 = .ok (.aload_n 0, 1) := by decide +kernel
theorem dX7_close_1 : decode cX7_close 1 = .ok (.getfield 47, 3) := by decide +kernel
theorem dX7_close_4 : decode cX7_close 4 = .ok (.getfield 105, 3) := by decide +kernel
theorem dX7_close_7 : decode cX7_close 7 = .ok (.istore_n 1, 1) := by decide +kernel
theorem dX7_close_8 : decode cX7_close 8 = .ok (.iload_n 1, 1) := by decide +kernel
theorem dX7_close_9 : decode cX7_close 9 = .ok (.bipush 40, 2) := by decide +kernel
theorem dX7_close_11 : decode cX7_close 11 = .ok (.if_icmp .lt 5, 3) := by decide +kernel
theorem dX7_close_14 : decode cX7_close 14 = .ok (.iconst (-1), 1) := by decide +kernel
theorem dX7_close_15 : decode cX7_close 15 = .ok (.ireturn, 1) := by decide +kernel
theorem dX7_close_16 : decode cX7_close 16 = .ok (.aload_n 0, 1) := by decide +kernel
theorem dX7_close_17 : decode cX7_close 17 = .ok (.getfield 47, 3) := by decide +kernel
theorem dX7_close_20 : decode cX7_close 20 = .ok (.iload_n 1, 1) := by decide +kernel
theorem dX7_close_21 : decode cX7_close 21 = .ok (.iconst 1, 1) := by decide +kernel
theorem dX7_close_22 : decode cX7_close 22 = .ok (.iadd, 1) := by decide +kernel
theorem dX7_close_23 : decode cX7_close 23 = .ok (.invokevirtual 133, 3) := by decide +kernel
theorem dX7_close_26 : decode cX7_close 26 = .ok (.iload_n 1, 1) := by decide +kernel
theorem dX7_close_27 : decode cX7_close 27 = .ok (.ireturn, 1) := by decide +kernel
set_option maxRecDepth 20000 in
theorem ggX7_due_X7_isHand : GoodIn wsX7_due wsX7_isHand := goodIn_r _ [6] (by decide +kernel) (by decide +kernel)
set_option maxRecDepth 20000 in
theorem gX7_due_X7_isHand : GoodIn wsX7_due (va_wsS RX7 65 yX7_isHand wsX7_isHand) := goodIn_app (goodIn_of _ (by decide +kernel)) ggX7_due_X7_isHand
set_option maxRecDepth 20000 in
theorem ggX7_due_X7_isClosed : GoodIn wsX7_due wsX7_isClosed := goodIn_r _ [10, 1, 11, 12, 13, 14, 15, 16, 17, 18, 19, 20, 21, 22, 23, 24, 25, 26, 27, 28, 29, 30, 31, 32, 33, 34] (by decide +kernel) (by decide +kernel)
set_option maxRecDepth 20000 in
theorem gX7_due_X7_isClosed : GoodIn wsX7_due (wsV RX7 141 RX7 yX7_isClosed wsX7_isClosed) := goodIn_app (goodIn_of _ (by decide +kernel)) ggX7_due_X7_isClosed
theorem dX7_due_0 : decode cX7_due 0 = .ok (.iload_n 1, 1) := by decide +kernel
theorem dX7_due_1 : decode cX7_due 1 = .ok (.invokestatic 65, 3) := by decide +kernel
theorem dX7_due_4 : decode cX7_due 4 = .ok (.ifCond .eq 11, 3) := by decide +kernel
theorem dX7_due_7 : decode cX7_due 7 = .ok (.aload_n 0, 1) := by decide +kernel
theorem dX7_due_8 : decode cX7_due 8 = .ok (.iload_n 2, 1) := by decide +kernel
theorem dX7_due_9 : decode cX7_due 9 = .ok (.invokevirtual 141, 3) := by decide +kernel
theorem dX7_due_12 : decode cX7_due 12 = .ok (.ifCond .ne 5, 3) := by decide +kernel
theorem dX7_due_15 : decode cX7_due 15 = .ok (.iconst (-1), 1) := by decide +kernel
theorem dX7_due_16 : decode cX7_due 16 = .ok (.ireturn, 1) := by decide +kernel
theorem dX7_due_17 : decode cX7_due 17 = .ok (.aload_n 0, 1) := by decide +kernel
theorem dX7_due_18 : decode cX7_due 18 = .ok (.getfield 47, 3) := by decide +kernel
theorem dX7_due_21 : decode cX7_due 21 = .ok (.getfield 144, 3) := by decide +kernel
theorem dX7_due_24 : decode cX7_due 24 = .ok (.iload_n 1, 1) := by decide +kernel
theorem dX7_due_25 : decode cX7_due 25 = .ok (.bipush 40, 2) := by decide +kernel
theorem dX7_due_27 : decode cX7_due 27 = .ok (.imul, 1) := by decide +kernel
theorem dX7_due_28 : decode cX7_due 28 = .ok (.iload_n 2, 1) := by decide +kernel
theorem dX7_due_29 : decode cX7_due 29 = .ok (.iadd, 1) := by decide +kernel
theorem dX7_due_30 : decode cX7_due 30 = .ok (.iaload, 1) := by decide +kernel
theorem dX7_due_31 : decode cX7_due 31 = .ok (.ireturn, 1) := by decide +kernel
set_option maxRecDepth 20000 in
theorem ggX7_hand_X7_isHand : GoodIn wsX7_hand wsX7_isHand := goodIn_r _ [11] (by decide +kernel) (by decide +kernel)
set_option maxRecDepth 20000 in
theorem gX7_hand_X7_isHand : GoodIn wsX7_hand (va_wsS RX7 65 yX7_isHand wsX7_isHand) := goodIn_app (goodIn_of _ (by decide +kernel)) ggX7_hand_X7_isHand
set_option maxRecDepth 20000 in
theorem ggX7_hand_X2_allDues : GoodIn wsX7_hand wsX2_allDues := goodIn_r _ [16, 17, 18, 19, 20, 15, 21, 22, 188, 189, 190, 191, 192, 193, 194, 195, 196, 197, 198, 199, 200, 201, 202, 203] (by decide +kernel) (by decide +kernel)
set_option maxRecDepth 20000 in
theorem gX7_hand_X2_allDues : GoodIn wsX7_hand (wsV RX7 154 RX2 yX2_allDues wsX2_allDues) := goodIn_app (goodIn_of _ (by decide +kernel)) ggX7_hand_X2_allDues
set_option maxRecDepth 20000 in
theorem ggX7_hand_X2_reckonTo : GoodIn wsX7_hand wsX2_reckonTo := goodIn_r _ [26, 27, 28, 29, 30, 17, 31, 32, 33, 15, 34, 35, 36, 37, 38, 39, 40, 41, 42, 43, 44, 45, 46, 47, 48, 49, 50, 51, 52, 53, 54, 55, 56, 57, 58, 59, 60, 61, 62, 63, 64, 65, 66, 67, 68, 69, 70, 71, 72, 73, 74, 75, 76, 77, 78, 79, 80, 81, 82, 83, 84, 85, 86, 87, 88, 89, 90, 91, 92, 93, 94, 95, 96, 97, 98, 99, 100, 101, 102, 103, 104, 105, 106, 107, 108, 109, 110, 111, 112, 113, 114, 115, 116, 117, 118, 119, 120, 121, 122, 123, 124, 125, 126, 127, 128, 129, 130, 131, 132, 133, 134, 10, 135, 136, 137, 138, 139, 140, 141, 142, 143, 144, 145, 146, 147, 148, 149, 150, 151, 152, 153, 154, 155, 156, 157, 158, 159, 160, 161, 162, 163, 164, 165, 22, 166, 167, 168, 169, 170, 171, 18, 19, 20, 21, 188, 189, 190, 191, 192, 193, 194, 195, 196, 197, 198, 199, 200, 201, 202, 203, 204, 205, 206, 207, 208, 209, 210, 211, 212, 213, 214, 215, 216, 217, 218, 219, 220, 221, 222, 223, 224, 225, 226, 227, 228, 229, 230, 231, 232, 233, 234] (by decide +kernel) (by decide +kernel)
set_option maxRecDepth 20000 in
theorem gX7_hand_X2_reckonTo : GoodIn wsX7_hand (wsV RX7 133 RX2 yX2_reckonTo wsX2_reckonTo) := goodIn_app (goodIn_of _ (by decide +kernel)) ggX7_hand_X2_reckonTo
set_option maxRecDepth 20000 in
theorem ggX7_hand_X7_owedTo : GoodIn wsX7_hand wsX7_owedTo := goodIn_r _ [175, 6, 2, 176, 177, 178, 15, 179, 41, 122, 52, 180, 13, 14, 16, 17, 18, 19, 20, 21, 22, 181, 182, 183, 184, 185, 186, 187, 188, 189, 190, 191, 192, 193, 194, 195, 196, 197, 198, 199, 200, 201, 202, 203] (by decide +kernel) (by decide +kernel)
set_option maxRecDepth 20000 in
theorem gX7_hand_X7_owedTo : GoodIn wsX7_hand (wsV RX7 161 RX7 yX7_owedTo wsX7_owedTo) := goodIn_app (goodIn_of _ (by decide +kernel)) ggX7_hand_X7_owedTo
theorem dX7_hand_0 : decode cX7_hand 0 = .ok (.iload_n 1, 1) := by decide +kernel
theorem dX7_hand_1 : decode cX7_hand 1 = .ok (.invokestatic 65, 3) := by decide +kernel
theorem dX7_hand_4 : decode cX7_hand 4 = .ok (.ifCond .ne 7, 3) := by decide +kernel
theorem dX7_hand_7 : decode cX7_hand 7 = .ok (.ldc2_w 128, 3) := by decide +kernel
theorem dX7_hand_10 : decode cX7_hand 10 = .ok (.lreturn, 1) := by decide +kernel
theorem dX7_hand_11 : decode cX7_hand 11 = .ok (.iload_n 2, 1) := by decide +kernel
theorem dX7_hand_12 : decode cX7_hand 12 = .ok (.tableswitch 95 0 4 #[36, 46, 56, 65, 75], 36) := by decide +kernel
theorem dX7_hand_48 : decode cX7_hand 48 = .ok (.aload_n 0, 1) := by decide +kernel
theorem dX7_hand_49 : decode cX7_hand 49 = .ok (.getfield 47, 3) := by decide +kernel
theorem dX7_hand_52 : decode cX7_hand 52 = .ok (.getfield 147, 3) := by decide +kernel
theorem dX7_hand_55 : decode cX7_hand 55 = .ok (.iload_n 1, 1) := by decide +kernel
theorem dX7_hand_56 : decode cX7_hand 56 = .ok (.laload, 1) := by decide +kernel
theorem dX7_hand_57 : decode cX7_hand 57 = .ok (.lreturn, 1) := by decide +kernel
theorem dX7_hand_58 : decode cX7_hand 58 = .ok (.aload_n 0, 1) := by decide +kernel
theorem dX7_hand_59 : decode cX7_hand 59 = .ok (.getfield 47, 3) := by decide +kernel
theorem dX7_hand_62 : decode cX7_hand 62 = .ok (.getfield 151, 3) := by decide +kernel
theorem dX7_hand_65 : decode cX7_hand 65 = .ok (.iload_n 1, 1) := by decide +kernel
theorem dX7_hand_66 : decode cX7_hand 66 = .ok (.laload, 1) := by decide +kernel
theorem dX7_hand_67 : decode cX7_hand 67 = .ok (.lreturn, 1) := by decide +kernel
theorem dX7_hand_68 : decode cX7_hand 68 = .ok (.aload_n 0, 1) := by decide +kernel
theorem dX7_hand_69 : decode cX7_hand 69 = .ok (.getfield 47, 3) := by decide +kernel
theorem dX7_hand_72 : decode cX7_hand 72 = .ok (.iload_n 1, 1) := by decide +kernel
theorem dX7_hand_73 : decode cX7_hand 73 = .ok (.invokevirtual 154, 3) := by decide +kernel
theorem dX7_hand_76 : decode cX7_hand 76 = .ok (.lreturn, 1) := by decide +kernel
theorem dX7_hand_77 : decode cX7_hand 77 = .ok (.aload_n 0, 1) := by decide +kernel
theorem dX7_hand_78 : decode cX7_hand 78 = .ok (.getfield 47, 3) := by decide +kernel
theorem dX7_hand_81 : decode cX7_hand 81 = .ok (.getfield 158, 3) := by decide +kernel
theorem dX7_hand_84 : decode cX7_hand 84 = .ok (.iload_n 1, 1) := by decide +kernel
theorem dX7_hand_85 : decode cX7_hand 85 = .ok (.laload, 1) := by decide +kernel
theorem dX7_hand_86 : decode cX7_hand 86 = .ok (.lreturn, 1) := by decide +kernel
theorem dX7_hand_87 : decode cX7_hand 87 = .ok (.aload_n 0, 1) := by decide +kernel
theorem dX7_hand_88 : decode cX7_hand 88 = .ok (.getfield 51, 3) := by decide +kernel
theorem dX7_hand_91 : decode cX7_hand 91 = .ok (.aload_n 0, 1) := by decide +kernel
theorem dX7_hand_92 : decode cX7_hand 92 = .ok (.getfield 47, 3) := by decide +kernel
theorem dX7_hand_95 : decode cX7_hand 95 = .ok (.getfield 105, 3) := by decide +kernel
theorem dX7_hand_98 : decode cX7_hand 98 = .ok (.invokevirtual 133, 3) := by decide +kernel
theorem dX7_hand_101 : decode cX7_hand 101 = .ok (.aload_n 0, 1) := by decide +kernel
theorem dX7_hand_102 : decode cX7_hand 102 = .ok (.iload_n 1, 1) := by decide +kernel
theorem dX7_hand_103 : decode cX7_hand 103 = .ok (.invokevirtual 161, 3) := by decide +kernel
theorem dX7_hand_106 : decode cX7_hand 106 = .ok (.lreturn, 1) := by decide +kernel
theorem dX7_hand_107 : decode cX7_hand 107 = .ok (.ldc2_w 128, 3) := by decide +kernel
theorem dX7_hand_110 : decode cX7_hand 110 = .ok (.lreturn, 1) := by decide +kernel
set_option maxRecDepth 20000 in
theorem ggX7_has_X2_stillIn : GoodIn wsX7_has wsX2_stillIn := goodIn_r _ [12, 13, 14, 15, 16, 17, 18, 35, 36, 37, 38, 39, 40, 41, 42, 43, 44, 45, 46, 47, 48, 49, 50, 26, 27, 28, 29, 30, 31, 32, 33, 34] (by decide +kernel) (by decide +kernel)
set_option maxRecDepth 20000 in
theorem gX7_has_X2_stillIn : GoodIn wsX7_has (wsV RX7 170 RX2 yX2_stillIn wsX2_stillIn) := goodIn_app (goodIn_of _ (by decide +kernel)) ggX7_has_X2_stillIn
theorem dX7_has_0 : decode cX7_has 0 = .ok (.iload_n 1, 1) := by decide +kernel
theorem dX7_has_1 : decode cX7_has 1 = .ok (.ifCond .lt 14, 3) := by decide +kernel
theorem dX7_has_4 : decode cX7_has 4 = .ok (.iload_n 1, 1) := by decide +kernel
theorem dX7_has_5 : decode cX7_has 5 = .ok (.aload_n 0, 1) := by decide +kernel
theorem dX7_has_6 : decode cX7_has 6 = .ok (.getfield 19, 3) := by decide +kernel
theorem dX7_has_9 : decode cX7_has 9 = .ok (.getfield 86, 3) := by decide +kernel
theorem dX7_has_12 : decode cX7_has 12 = .ok (.if_icmp .lt 7, 3) := by decide +kernel
theorem dX7_has_15 : decode cX7_has 15 = .ok (.ldc2_w 128, 3) := by decide +kernel
theorem dX7_has_18 : decode cX7_has 18 = .ok (.lreturn, 1) := by decide +kernel
theorem dX7_has_19 : decode cX7_has 19 = .ok (.iload_n 2, 1) := by decide +kernel
theorem dX7_has_20 : decode cX7_has 20 = .ok (.ifCond .ne 13, 3) := by decide +kernel
theorem dX7_has_23 : decode cX7_has 23 = .ok (.aload_n 0, 1) := by decide +kernel
theorem dX7_has_24 : decode cX7_has 24 = .ok (.getfield 47, 3) := by decide +kernel
theorem dX7_has_27 : decode cX7_has 27 = .ok (.getfield 164, 3) := by decide +kernel
theorem dX7_has_30 : decode cX7_has 30 = .ok (.iload_n 1, 1) := by decide +kernel
theorem dX7_has_31 : decode cX7_has 31 = .ok (.laload, 1) := by decide +kernel
theorem dX7_has_32 : decode cX7_has 32 = .ok (.lreturn, 1) := by decide +kernel
theorem dX7_has_33 : decode cX7_has 33 = .ok (.iload_n 2, 1) := by decide +kernel
theorem dX7_has_34 : decode cX7_has 34 = .ok (.iconst 1, 1) := by decide +kernel
theorem dX7_has_35 : decode cX7_has 35 = .ok (.if_icmp .ne 13, 3) := by decide +kernel
theorem dX7_has_38 : decode cX7_has 38 = .ok (.aload_n 0, 1) := by decide +kernel
theorem dX7_has_39 : decode cX7_has 39 = .ok (.getfield 47, 3) := by decide +kernel
theorem dX7_has_42 : decode cX7_has 42 = .ok (.getfield 167, 3) := by decide +kernel
theorem dX7_has_45 : decode cX7_has 45 = .ok (.iload_n 1, 1) := by decide +kernel
theorem dX7_has_46 : decode cX7_has 46 = .ok (.laload, 1) := by decide +kernel
theorem dX7_has_47 : decode cX7_has 47 = .ok (.lreturn, 1) := by decide +kernel
theorem dX7_has_48 : decode cX7_has 48 = .ok (.iload_n 2, 1) := by decide +kernel
theorem dX7_has_49 : decode cX7_has 49 = .ok (.iconst 2, 1) := by decide +kernel
theorem dX7_has_50 : decode cX7_has 50 = .ok (.if_icmp .ne 12, 3) := by decide +kernel
theorem dX7_has_53 : decode cX7_has 53 = .ok (.aload_n 0, 1) := by decide +kernel
theorem dX7_has_54 : decode cX7_has 54 = .ok (.getfield 47, 3) := by decide +kernel
theorem dX7_has_57 : decode cX7_has 57 = .ok (.iload_n 1, 1) := by decide +kernel
theorem dX7_has_58 : decode cX7_has 58 = .ok (.invokevirtual 170, 3) := by decide +kernel
theorem dX7_has_61 : decode cX7_has 61 = .ok (.lreturn, 1) := by decide +kernel
theorem dX7_has_62 : decode cX7_has 62 = .ok (.iload_n 2, 1) := by decide +kernel
theorem dX7_has_63 : decode cX7_has 63 = .ok (.bipush 20, 2) := by decide +kernel
theorem dX7_has_65 : decode cX7_has 65 = .ok (.if_icmp .lt 27, 3) := by decide +kernel
theorem dX7_has_68 : decode cX7_has 68 = .ok (.iload_n 2, 1) := by decide +kernel
theorem dX7_has_69 : decode cX7_has 69 = .ok (.bipush 60, 2) := by decide +kernel
theorem dX7_has_71 : decode cX7_has 71 = .ok (.if_icmp .ge 21, 3) := by decide +kernel
theorem dX7_has_74 : decode cX7_has 74 = .ok (.aload_n 0, 1) := by decide +kernel
theorem dX7_has_75 : decode cX7_has 75 = .ok (.getfield 47, 3) := by decide +kernel
theorem dX7_has_78 : decode cX7_has 78 = .ok (.getfield 173, 3) := by decide +kernel
theorem dX7_has_81 : decode cX7_has 81 = .ok (.iload_n 1, 1) := by decide +kernel
theorem dX7_has_82 : decode cX7_has 82 = .ok (.bipush 40, 2) := by decide +kernel
theorem dX7_has_84 : decode cX7_has 84 = .ok (.imul, 1) := by decide +kernel
theorem dX7_has_85 : decode cX7_has 85 = .ok (.iload_n 2, 1) := by decide +kernel
theorem dX7_has_86 : decode cX7_has 86 = .ok (.iadd, 1) := by decide +kernel
theorem dX7_has_87 : decode cX7_has 87 = .ok (.bipush 20, 2) := by decide +kernel
theorem dX7_has_89 : decode cX7_has 89 = .ok (.isub, 1) := by decide +kernel
theorem dX7_has_90 : decode cX7_has 90 = .ok (.laload, 1) := by decide +kernel
theorem dX7_has_91 : decode cX7_has 91 = .ok (.lreturn, 1) := by decide +kernel
theorem dX7_has_92 : decode cX7_has 92 = .ok (.lconst 0, 1) := by decide +kernel
theorem dX7_has_93 : decode cX7_has 93 = .ok (.lreturn, 1) := by decide +kernel
set_option maxRecDepth 20000 in
theorem ggX7_told_X7_isClosed : GoodIn wsX7_told wsX7_isClosed := goodIn_r _ [6, 7, 8, 37, 38, 39, 40, 41, 42, 43, 44, 45, 46, 47, 48, 49, 50, 51, 52, 53, 54, 55, 56, 57, 58, 59] (by decide +kernel) (by decide +kernel)
set_option maxRecDepth 20000 in
theorem gX7_told_X7_isClosed : GoodIn wsX7_told (wsV RX7 141 RX7 yX7_isClosed wsX7_isClosed) := goodIn_app (goodIn_of _ (by decide +kernel)) ggX7_told_X7_isClosed
set_option maxRecDepth 20000 in
theorem ggX7_told_X7_isTheTerm : GoodIn wsX7_told wsX7_isTheTerm := goodIn_r _ [12, 7, 8, 37, 38, 39, 40, 41, 42, 43, 44, 45, 46, 47, 48, 49, 50, 51, 52, 53, 54, 55, 56, 57, 58, 59] (by decide +kernel) (by decide +kernel)
set_option maxRecDepth 20000 in
theorem gX7_told_X7_isTheTerm : GoodIn wsX7_told (wsV RX7 176 RX7 yX7_isTheTerm wsX7_isTheTerm) := goodIn_app (goodIn_of _ (by decide +kernel)) ggX7_told_X7_isTheTerm
set_option maxRecDepth 20000 in
theorem ggX7_told_X7_isWork : GoodIn wsX7_told wsX7_isWork := goodIn_r _ [15] (by decide +kernel) (by decide +kernel)
set_option maxRecDepth 20000 in
theorem gX7_told_X7_isWork : GoodIn wsX7_told (va_wsS RX7 54 yX7_isWork wsX7_isWork) := goodIn_app (goodIn_of _ (by decide +kernel)) ggX7_told_X7_isWork
set_option maxRecDepth 20000 in
theorem ggX7_told_X4_coinsOf : GoodIn wsX7_told wsX4_coinsOf := goodIn_r _ [20, 21, 60, 61, 62, 63, 64, 65] (by decide +kernel) (by decide +kernel)
set_option maxRecDepth 20000 in
theorem gX7_told_X4_coinsOf : GoodIn wsX7_told (wsV RX7 179 RX4 yX4_coinsOf wsX4_coinsOf) := goodIn_app (goodIn_of _ (by decide +kernel)) ggX7_told_X4_coinsOf
set_option maxRecDepth 20000 in
theorem ggX7_told_X4_wayOf : GoodIn wsX7_told wsX4_wayOf := goodIn_r _ [25, 26, 60, 61, 62, 63, 64, 65] (by decide +kernel) (by decide +kernel)
set_option maxRecDepth 20000 in
theorem gX7_told_X4_wayOf : GoodIn wsX7_told (wsV RX7 183 RX4 yX4_wayOf wsX4_wayOf) := goodIn_app (goodIn_of _ (by decide +kernel)) ggX7_told_X4_wayOf
set_option maxRecDepth 20000 in
theorem ggX7_told_X4_isOpen : GoodIn wsX7_told wsX4_isOpen := goodIn_r _ [30, 31, 60, 61, 62, 63, 64, 65] (by decide +kernel) (by decide +kernel)
set_option maxRecDepth 20000 in
theorem gX7_told_X4_isOpen : GoodIn wsX7_told (wsV RX7 186 RX4 yX4_isOpen wsX4_isOpen) := goodIn_app (goodIn_of _ (by decide +kernel)) ggX7_told_X4_isOpen
set_option maxRecDepth 20000 in
theorem ggX7_told_X4_placeOf : GoodIn wsX7_told wsX4_placeOf := goodIn_r _ [35, 26, 36, 60, 61, 62, 63, 64, 65] (by decide +kernel) (by decide +kernel)
set_option maxRecDepth 20000 in
theorem gX7_told_X4_placeOf : GoodIn wsX7_told (wsV RX7 189 RX4 yX4_placeOf wsX4_placeOf) := goodIn_app (goodIn_of _ (by decide +kernel)) ggX7_told_X4_placeOf
theorem dX7_told_0 : decode cX7_told 0 = .ok (.aload_n 0, 1) := by decide +kernel
theorem dX7_told_1 : decode cX7_told 1 = .ok (.iload_n 1, 1) := by decide +kernel
theorem dX7_told_2 : decode cX7_told 2 = .ok (.invokevirtual 141, 3) := by decide +kernel
theorem dX7_told_5 : decode cX7_told 5 = .ok (.ifCond .ne 11, 3) := by decide +kernel
theorem dX7_told_8 : decode cX7_told 8 = .ok (.aload_n 0, 1) := by decide +kernel
theorem dX7_told_9 : decode cX7_told 9 = .ok (.iload_n 1, 1) := by decide +kernel
theorem dX7_told_10 : decode cX7_told 10 = .ok (.invokevirtual 176, 3) := by decide +kernel
theorem dX7_told_13 : decode cX7_told 13 = .ok (.ifCond .eq 7, 3) := by decide +kernel
theorem dX7_told_16 : decode cX7_told 16 = .ok (.iconst 1, 1) := by decide +kernel
theorem dX7_told_17 : decode cX7_told 17 = .ok (.goto 4, 3) := by decide +kernel
theorem dX7_told_20 : decode cX7_told 20 = .ok (.iconst 0, 1) := by decide +kernel
theorem dX7_told_21 : decode cX7_told 21 = .ok (.istore 4, 2) := by decide +kernel
theorem dX7_told_23 : decode cX7_told 23 = .ok (.iload 4, 2) := by decide +kernel
theorem dX7_told_25 : decode cX7_told 25 = .ok (.ifCond .eq 10, 3) := by decide +kernel
theorem dX7_told_28 : decode cX7_told 28 = .ok (.iload_n 2, 1) := by decide +kernel
theorem dX7_told_29 : decode cX7_told 29 = .ok (.invokestatic 54, 3) := by decide +kernel
theorem dX7_told_32 : decode cX7_told 32 = .ok (.ifCond .ne 5, 3) := by decide +kernel
theorem dX7_told_35 : decode cX7_told 35 = .ok (.iconst (-1), 1) := by decide +kernel
theorem dX7_told_36 : decode cX7_told 36 = .ok (.ireturn, 1) := by decide +kernel
theorem dX7_told_37 : decode cX7_told 37 = .ok (.iload_n 3, 1) := by decide +kernel
theorem dX7_told_38 : decode cX7_told 38 = .ok (.tableswitch 83 0 4 #[34, 34, 34, 45, 73], 34) := by decide +kernel
theorem dX7_told_72 : decode cX7_told 72 = .ok (.aload_n 0, 1) := by decide +kernel
theorem dX7_told_73 : decode cX7_told 73 = .ok (.getfield 26, 3) := by decide +kernel
theorem dX7_told_76 : decode cX7_told 76 = .ok (.iload_n 1, 1) := by decide +kernel
theorem dX7_told_77 : decode cX7_told 77 = .ok (.iload_n 2, 1) := by decide +kernel
theorem dX7_told_78 : decode cX7_told 78 = .ok (.iload_n 3, 1) := by decide +kernel
theorem dX7_told_79 : decode cX7_told 79 = .ok (.invokevirtual 179, 3) := by decide +kernel
theorem dX7_told_82 : decode cX7_told 82 = .ok (.ireturn, 1) := by decide +kernel
theorem dX7_told_83 : decode cX7_told 83 = .ok (.aload_n 0, 1) := by decide +kernel
theorem dX7_told_84 : decode cX7_told 84 = .ok (.getfield 26, 3) := by decide +kernel
theorem dX7_told_87 : decode cX7_told 87 = .ok (.iload_n 1, 1) := by decide +kernel
theorem dX7_told_88 : decode cX7_told 88 = .ok (.iload_n 2, 1) := by decide +kernel
theorem dX7_told_89 : decode cX7_told 89 = .ok (.invokevirtual 183, 3) := by decide +kernel
theorem dX7_told_92 : decode cX7_told 92 = .ok (.aload_n 0, 1) := by decide +kernel
theorem dX7_told_93 : decode cX7_told 93 = .ok (.getfield 26, 3) := by decide +kernel
theorem dX7_told_96 : decode cX7_told 96 = .ok (.iload_n 1, 1) := by decide +kernel
theorem dX7_told_97 : decode cX7_told 97 = .ok (.iload_n 2, 1) := by decide +kernel
theorem dX7_told_98 : decode cX7_told 98 = .ok (.invokevirtual 186, 3) := by decide +kernel
theorem dX7_told_101 : decode cX7_told 101 = .ok (.ifCond .eq 7, 3) := by decide +kernel
theorem dX7_told_104 : decode cX7_told 104 = .ok (.iconst 4, 1) := by decide +kernel
theorem dX7_told_105 : decode cX7_told 105 = .ok (.goto 4, 3) := by decide +kernel
theorem dX7_told_108 : decode cX7_told 108 = .ok (.iconst 0, 1) := by decide +kernel
theorem dX7_told_109 : decode cX7_told 109 = .ok (.iadd, 1) := by decide +kernel
theorem dX7_told_110 : decode cX7_told 110 = .ok (.ireturn, 1) := by decide +kernel
theorem dX7_told_111 : decode cX7_told 111 = .ok (.aload_n 0, 1) := by decide +kernel
theorem dX7_told_112 : decode cX7_told 112 = .ok (.getfield 26, 3) := by decide +kernel
theorem dX7_told_115 : decode cX7_told 115 = .ok (.iload_n 1, 1) := by decide +kernel
theorem dX7_told_116 : decode cX7_told 116 = .ok (.iload_n 2, 1) := by decide +kernel
theorem dX7_told_117 : decode cX7_told 117 = .ok (.invokevirtual 189, 3) := by decide +kernel
theorem dX7_told_120 : decode cX7_told 120 = .ok (.ireturn, 1) := by decide +kernel
theorem dX7_told_121 : decode cX7_told 121 = .ok (.iconst (-1), 1) := by decide +kernel
theorem dX7_told_122 : decode cX7_told 122 = .ok (.ireturn, 1) := by decide +kernel
set_option maxRecDepth 20000 in
theorem ggX7_mend_X7_isClosed : GoodIn wsX7_mend wsX7_isClosed := goodIn_r _ [8, 9, 3, 60, 61, 62, 63, 64, 65, 66, 67, 68, 69, 70, 71, 72, 73, 74, 75, 76, 77, 78, 79, 80, 81, 82] (by decide +kernel) (by decide +kernel)
set_option maxRecDepth 20000 in
theorem gX7_mend_X7_isClosed : GoodIn wsX7_mend (wsV RX7 141 RX7 yX7_isClosed wsX7_isClosed) := goodIn_app (goodIn_of _ (by decide +kernel)) ggX7_mend_X7_isClosed
set_option maxRecDepth 20000 in
theorem ggX7_mend_X7_reportFits : GoodIn wsX7_mend wsX7_reportFits := goodIn_r _ [13, 14, 15, 16, 17, 7, 18, 19, 20, 21, 22, 60, 61, 62, 63, 64, 65, 66, 83, 84, 85, 86] (by decide +kernel) (by decide +kernel)
set_option maxRecDepth 20000 in
theorem gX7_mend_X7_reportFits : GoodIn wsX7_mend (wsV RX7 108 RX7 yX7_reportFits wsX7_reportFits) := goodIn_app (goodIn_of _ (by decide +kernel)) ggX7_mend_X7_reportFits
set_option maxRecDepth 20000 in
theorem ggX7_mend_X4_put : GoodIn wsX7_mend wsX4_put := goodIn_r _ [27, 28, 29, 30, 31, 32, 87, 88, 89, 90, 91, 92] (by decide +kernel) (by decide +kernel)
set_option maxRecDepth 20000 in
theorem gX7_mend_X4_put : GoodIn wsX7_mend (wsV RX7 112 RX4 yX4_put wsX4_put) := goodIn_app (goodIn_of _ (by decide +kernel)) ggX7_mend_X4_put
set_option maxRecDepth 20000 in
theorem ggX7_mend_X4_bringBack : GoodIn wsX7_mend wsX4_bringBack := goodIn_r _ [36, 37, 87, 88, 89, 90, 91, 92] (by decide +kernel) (by decide +kernel)
set_option maxRecDepth 20000 in
theorem gX7_mend_X4_bringBack : GoodIn wsX7_mend (wsV RX7 192 RX4 yX4_bringBack wsX4_bringBack) := goodIn_app (goodIn_of _ (by decide +kernel)) ggX7_mend_X4_bringBack
set_option maxRecDepth 20000 in
theorem ggX7_mend_X2_clear : GoodIn wsX7_mend wsX2_clear := goodIn_r _ [42, 43, 44, 45, 46, 47, 48, 49, 50, 51, 52, 53, 54, 55, 56, 57, 58, 59, 67, 68, 69, 70, 71, 72, 73, 74, 75, 76, 77, 78, 79, 80, 81, 82] (by decide +kernel) (by decide +kernel)
set_option maxRecDepth 20000 in
theorem gX7_mend_X2_clear : GoodIn wsX7_mend (wsV RX7 195 RX2 yX2_clear wsX2_clear) := goodIn_app (goodIn_of _ (by decide +kernel)) ggX7_mend_X2_clear
theorem dX7_mend_0 : decode cX7_mend 0 = .ok (.aload_n 0, 1) := by decide +kernel
theorem dX7_mend_1 : decode cX7_mend 1 = .ok (.iload_n 1, 1) := by decide +kernel
theorem dX7_mend_2 : decode cX7_mend 2 = .ok (.invokevirtual 141, 3) := by decide +kernel
theorem dX7_mend_5 : decode cX7_mend 5 = .ok (.ifCond .eq 18, 3) := by decide +kernel
theorem dX7_mend_8 : decode cX7_mend 8 = .ok (.aload_n 0, 1) := by decide +kernel
theorem dX7_mend_9 : decode cX7_mend 9 = .ok (.iload_n 2, 1) := by decide +kernel
theorem dX7_mend_10 : decode cX7_mend 10 = .ok (.iload_n 3, 1) := by decide +kernel
theorem dX7_mend_11 : decode cX7_mend 11 = .ok (.iload 4, 2) := by decide +kernel
theorem dX7_mend_13 : decode cX7_mend 13 = .ok (.iload 5, 2) := by decide +kernel
theorem dX7_mend_15 : decode cX7_mend 15 = .ok (.iload 6, 2) := by decide +kernel
theorem dX7_mend_17 : decode cX7_mend 17 = .ok (.invokevirtual 108, 3) := by decide +kernel
theorem dX7_mend_20 : decode cX7_mend 20 = .ok (.ifCond .ne 5, 3) := by decide +kernel
theorem dX7_mend_23 : decode cX7_mend 23 = .ok (.iconst 0, 1) := by decide +kernel
theorem dX7_mend_24 : decode cX7_mend 24 = .ok (.ireturn, 1) := by decide +kernel
theorem dX7_mend_25 : decode cX7_mend 25 = .ok (.aload_n 0, 1) := by decide +kernel
theorem dX7_mend_26 : decode cX7_mend 26 = .ok (.getfield 26, 3) := by decide +kernel
theorem dX7_mend_29 : decode cX7_mend 29 = .ok (.iload_n 1, 1) := by decide +kernel
theorem dX7_mend_30 : decode cX7_mend 30 = .ok (.iload_n 2, 1) := by decide +kernel
theorem dX7_mend_31 : decode cX7_mend 31 = .ok (.iload_n 3, 1) := by decide +kernel
theorem dX7_mend_32 : decode cX7_mend 32 = .ok (.iload 4, 2) := by decide +kernel
theorem dX7_mend_34 : decode cX7_mend 34 = .ok (.iload 5, 2) := by decide +kernel
theorem dX7_mend_36 : decode cX7_mend 36 = .ok (.iload 6, 2) := by decide +kernel
theorem dX7_mend_38 : decode cX7_mend 38 = .ok (.invokevirtual 112, 3) := by decide +kernel
theorem dX7_mend_41 : decode cX7_mend 41 = .ok (.aload_n 0, 1) := by decide +kernel
theorem dX7_mend_42 : decode cX7_mend 42 = .ok (.getfield 26, 3) := by decide +kernel
theorem dX7_mend_45 : decode cX7_mend 45 = .ok (.iload_n 1, 1) := by decide +kernel
theorem dX7_mend_46 : decode cX7_mend 46 = .ok (.iload_n 2, 1) := by decide +kernel
theorem dX7_mend_47 : decode cX7_mend 47 = .ok (.invokevirtual 192, 3) := by decide +kernel
theorem dX7_mend_50 : decode cX7_mend 50 = .ok (.iload_n 1, 1) := by decide +kernel
theorem dX7_mend_51 : decode cX7_mend 51 = .ok (.aload_n 0, 1) := by decide +kernel
theorem dX7_mend_52 : decode cX7_mend 52 = .ok (.getfield 51, 3) := by decide +kernel
theorem dX7_mend_55 : decode cX7_mend 55 = .ok (.getfield 105, 3) := by decide +kernel
theorem dX7_mend_58 : decode cX7_mend 58 = .ok (.if_icmp .ge 10, 3) := by decide +kernel
theorem dX7_mend_61 : decode cX7_mend 61 = .ok (.aload_n 0, 1) := by decide +kernel
theorem dX7_mend_62 : decode cX7_mend 62 = .ok (.getfield 51, 3) := by decide +kernel
theorem dX7_mend_65 : decode cX7_mend 65 = .ok (.invokevirtual 195, 3) := by decide +kernel
theorem dX7_mend_68 : decode cX7_mend 68 = .ok (.iconst 1, 1) := by decide +kernel
theorem dX7_mend_69 : decode cX7_mend 69 = .ok (.ireturn, 1) := by decide +kernel
set_option maxRecDepth 20000 in
theorem ggX7_owe_X2_reckonTo : GoodIn wsX7_owe wsX2_reckonTo := goodIn_r _ [8, 9, 10, 11, 12, 13, 14, 15, 16, 7, 17, 18, 19, 20, 21, 22, 23, 24, 25, 26, 27, 28, 29, 30, 31, 32, 33, 34, 35, 36, 37, 38, 39, 40, 41, 42, 43, 44, 45, 46, 47, 48, 49, 50, 51, 52, 53, 54, 55, 56, 57, 58, 59, 60, 61, 62, 63, 64, 65, 66, 67, 68, 69, 70, 71, 72, 73, 74, 75, 76, 77, 78, 79, 80, 81, 82, 83, 84, 85, 86, 87, 88, 89, 90, 91, 92, 93, 94, 95, 96, 97, 98, 99, 100, 101, 102, 103, 104, 105, 106, 107, 108, 109, 110, 111, 112, 113, 114, 115, 116, 117, 118, 119, 120, 121, 122, 123, 124, 125, 126, 127, 128, 129, 130, 131, 132, 133, 134, 135, 136, 137, 138, 139, 140, 141, 142, 143, 144, 145, 146, 147, 148, 149, 150, 151, 152, 153, 154, 155, 156, 157, 158, 159, 160, 180, 181, 182, 183, 184, 185, 186, 187, 188, 189, 190, 191, 192, 193, 194, 195, 196, 197, 198, 199, 200, 201, 202, 203, 204, 205, 206, 207, 208, 209, 210, 211, 212, 213, 214, 215, 216, 217, 218, 219, 220, 221, 222, 223, 224, 225, 226] (by decide +kernel) (by decide +kernel)
set_option maxRecDepth 20000 in
theorem gX7_owe_X2_reckonTo : GoodIn wsX7_owe (wsV RX7 133 RX2 yX2_reckonTo wsX2_reckonTo) := goodIn_app (goodIn_of _ (by decide +kernel)) ggX7_owe_X2_reckonTo
set_option maxRecDepth 20000 in
theorem ggX7_owe_X7_owedTo : GoodIn wsX7_owe wsX7_owedTo := goodIn_r _ [164, 1, 2, 165, 166, 167, 7, 168, 24, 105, 35, 169, 170, 171, 172, 13, 157, 158, 159, 160, 150, 173, 174, 175, 176, 177, 178, 179, 180, 181, 182, 183, 184, 185, 186, 187, 188, 189, 190, 191, 192, 193, 194, 195] (by decide +kernel) (by decide +kernel)
set_option maxRecDepth 20000 in
theorem gX7_owe_X7_owedTo : GoodIn wsX7_owe (wsV RX7 161 RX7 yX7_owedTo wsX7_owedTo) := goodIn_app (goodIn_of _ (by decide +kernel)) ggX7_owe_X7_owedTo
theorem dX7_owe_0 : decode cX7_owe 0 = .ok (.aload_n 0, 1) := by decide +kernel
theorem dX7_owe_1 : decode cX7_owe 1 = .ok (.getfield 51, 3) := by decide +kernel
theorem dX7_owe_4 : decode cX7_owe 4 = .ok (.aload_n 0, 1) := by decide +kernel
theorem dX7_owe_5 : decode cX7_owe 5 = .ok (.getfield 47, 3) := by decide +kernel
theorem dX7_owe_8 : decode cX7_owe 8 = .ok (.getfield 105, 3) := by decide +kernel
theorem dX7_owe_11 : decode cX7_owe 11 = .ok (.invokevirtual 133, 3) := by decide +kernel
theorem dX7_owe_14 : decode cX7_owe 14 = .ok (.lconst 0, 1) := by decide +kernel
theorem dX7_owe_15 : decode cX7_owe 15 = .ok (.lstore_n 1, 1) := by decide +kernel
theorem dX7_owe_16 : decode cX7_owe 16 = .ok (.iconst 0, 1) := by decide +kernel
theorem dX7_owe_17 : decode cX7_owe 17 = .ok (.istore_n 3, 1) := by decide +kernel
theorem dX7_owe_18 : decode cX7_owe 18 = .ok (.iload_n 3, 1) := by decide +kernel
theorem dX7_owe_19 : decode cX7_owe 19 = .ok (.bipush 12, 2) := by decide +kernel
theorem dX7_owe_21 : decode cX7_owe 21 = .ok (.if_icmp .ge 17, 3) := by decide +kernel
theorem dX7_owe_24 : decode cX7_owe 24 = .ok (.lload_n 1, 1) := by decide +kernel
theorem dX7_owe_25 : decode cX7_owe 25 = .ok (.aload_n 0, 1) := by decide +kernel
theorem dX7_owe_26 : decode cX7_owe 26 = .ok (.iload_n 3, 1) := by decide +kernel
theorem dX7_owe_27 : decode cX7_owe 27 = .ok (.invokevirtual 161, 3) := by decide +kernel
theorem dX7_owe_30 : decode cX7_owe 30 = .ok (.ladd, 1) := by decide +kernel
theorem dX7_owe_31 : decode cX7_owe 31 = .ok (.lstore_n 1, 1) := by decide +kernel
theorem dX7_owe_32 : decode cX7_owe 32 = .ok (.iinc 3 1, 3) := by decide +kernel
theorem dX7_owe_35 : decode cX7_owe 35 = .ok (.goto (-17), 3) := by decide +kernel
theorem dX7_owe_38 : decode cX7_owe 38 = .ok (.lload_n 1, 1) := by decide +kernel
theorem dX7_owe_39 : decode cX7_owe 39 = .ok (.lreturn, 1) := by decide +kernel
set_option maxRecDepth 20000 in
theorem ggX7_settle_X2_reckonTo : GoodIn wsX7_settle wsX2_reckonTo := goodIn_r _ [9, 10, 11, 12, 13, 14, 15, 16, 17, 8, 18, 19, 20, 21, 22, 23, 24, 25, 26, 27, 28, 29, 30, 31, 32, 33, 34, 35, 36, 37, 38, 39, 40, 41, 42, 43, 44, 45, 46, 47, 48, 49, 50, 51, 52, 53, 54, 55, 56, 57, 58, 59, 60, 61, 62, 63, 64, 65, 66, 67, 68, 69, 70, 71, 72, 73, 74, 75, 76, 77, 78, 79, 80, 81, 82, 83, 84, 85, 86, 87, 88, 89, 90, 91, 92, 93, 94, 95, 96, 97, 98, 99, 100, 101, 102, 103, 104, 105, 106, 107, 108, 109, 110, 111, 112, 113, 114, 115, 116, 117, 118, 119, 120, 121, 122, 123, 124, 125, 126, 127, 128, 129, 130, 131, 132, 133, 134, 135, 136, 137, 138, 139, 140, 141, 142, 143, 144, 145, 146, 147, 148, 149, 150, 151, 152, 153, 154, 155, 156, 157, 158, 159, 160, 161, 190, 191, 192, 193, 194, 195, 196, 197, 198, 199, 200, 201, 202, 203, 204, 205, 206, 207, 208, 209, 210, 211, 212, 213, 214, 215, 216, 217, 218, 219, 220, 221, 222, 223, 224, 225, 226, 227, 228, 229, 230, 231, 232, 233, 234, 235, 236] (by decide +kernel) (by decide +kernel)
set_option maxRecDepth 20000 in
theorem gX7_settle_X2_reckonTo : GoodIn wsX7_settle (wsV RX7 133 RX2 yX2_reckonTo wsX2_reckonTo) := goodIn_app (goodIn_of _ (by decide +kernel)) ggX7_settle_X2_reckonTo
set_option maxRecDepth 20000 in
theorem ggX7_settle_X7_owedTo : GoodIn wsX7_settle wsX7_owedTo := goodIn_r _ [165, 1, 2, 166, 167, 168, 8, 169, 25, 106, 36, 170, 171, 172, 173, 14, 158, 159, 160, 161, 151, 183, 184, 185, 186, 187, 188, 189, 190, 191, 192, 193, 194, 195, 196, 197, 198, 199, 200, 201, 202, 203, 204, 205] (by decide +kernel) (by decide +kernel)
set_option maxRecDepth 20000 in
theorem gX7_settle_X7_owedTo : GoodIn wsX7_settle (wsV RX7 161 RX7 yX7_owedTo wsX7_owedTo) := goodIn_app (goodIn_of _ (by decide +kernel)) ggX7_settle_X7_owedTo
set_option maxRecDepth 20000 in
theorem ggX7_settle_X2_becomeLike : GoodIn wsX7_settle wsX2_becomeLike := goodIn_r _ [177, 106, 36, 157, 104, 178, 179, 180, 181, 103, 32, 73, 182, 167, 168, 8, 169, 25, 170, 171, 172, 173, 14, 158, 159, 160, 161, 151, 190, 191, 192, 193, 194, 195, 196, 197, 198, 199, 200, 201, 202, 203, 204, 205] (by decide +kernel) (by decide +kernel)
set_option maxRecDepth 20000 in
theorem gX7_settle_X2_becomeLike : GoodIn wsX7_settle (wsV RX7 198 RX2 yX2_becomeLike wsX2_becomeLike) := goodIn_app (goodIn_of _ (by decide +kernel)) ggX7_settle_X2_becomeLike
theorem dX7_settle_0 : decode cX7_settle 0 = .ok (.aload_n 0, 1) := by decide +kernel
theorem dX7_settle_1 : decode cX7_settle 1 = .ok (.getfield 51, 3) := by decide +kernel
theorem dX7_settle_4 : decode cX7_settle 4 = .ok (.aload_n 0, 1) := by decide +kernel
theorem dX7_settle_5 : decode cX7_settle 5 = .ok (.getfield 47, 3) := by decide +kernel
theorem dX7_settle_8 : decode cX7_settle 8 = .ok (.getfield 105, 3) := by decide +kernel
theorem dX7_settle_11 : decode cX7_settle 11 = .ok (.invokevirtual 133, 3) := by decide +kernel
theorem dX7_settle_14 : decode cX7_settle 14 = .ok (.iconst 0, 1) := by decide +kernel
theorem dX7_settle_15 : decode cX7_settle 15 = .ok (.istore_n 1, 1) := by decide +kernel
theorem dX7_settle_16 : decode cX7_settle 16 = .ok (.iconst 0, 1) := by decide +kernel
theorem dX7_settle_17 : decode cX7_settle 17 = .ok (.istore_n 2, 1) := by decide +kernel
theorem dX7_settle_18 : decode cX7_settle 18 = .ok (.iload_n 2, 1) := by decide +kernel
theorem dX7_settle_19 : decode cX7_settle 19 = .ok (.bipush 12, 2) := by decide +kernel
theorem dX7_settle_21 : decode cX7_settle 21 = .ok (.if_icmp .ge 22, 3) := by decide +kernel
theorem dX7_settle_24 : decode cX7_settle 24 = .ok (.aload_n 0, 1) := by decide +kernel
theorem dX7_settle_25 : decode cX7_settle 25 = .ok (.iload_n 2, 1) := by decide +kernel
theorem dX7_settle_26 : decode cX7_settle 26 = .ok (.invokevirtual 161, 3) := by decide +kernel
theorem dX7_settle_29 : decode cX7_settle 29 = .ok (.lconst 0, 1) := by decide +kernel
theorem dX7_settle_30 : decode cX7_settle 30 = .ok (.lcmp, 1) := by decide +kernel
theorem dX7_settle_31 : decode cX7_settle 31 = .ok (.ifCond .eq 6, 3) := by decide +kernel
theorem dX7_settle_34 : decode cX7_settle 34 = .ok (.iinc 1 1, 3) := by decide +kernel
theorem dX7_settle_37 : decode cX7_settle 37 = .ok (.iinc 2 1, 3) := by decide +kernel
theorem dX7_settle_40 : decode cX7_settle 40 = .ok (.goto (-22), 3) := by decide +kernel
theorem dX7_settle_43 : decode cX7_settle 43 = .ok (.aload_n 0, 1) := by decide +kernel
theorem dX7_settle_44 : decode cX7_settle 44 = .ok (.getfield 47, 3) := by decide +kernel
theorem dX7_settle_47 : decode cX7_settle 47 = .ok (.aload_n 0, 1) := by decide +kernel
theorem dX7_settle_48 : decode cX7_settle 48 = .ok (.getfield 51, 3) := by decide +kernel
theorem dX7_settle_51 : decode cX7_settle 51 = .ok (.invokevirtual 198, 3) := by decide +kernel
theorem dX7_settle_54 : decode cX7_settle 54 = .ok (.aload_n 0, 1) := by decide +kernel
theorem dX7_settle_55 : decode cX7_settle 55 = .ok (.dup, 1) := by decide +kernel
theorem dX7_settle_56 : decode cX7_settle 56 = .ok (.getfield 202, 3) := by decide +kernel
theorem dX7_settle_59 : decode cX7_settle 59 = .ok (.iconst 1, 1) := by decide +kernel
theorem dX7_settle_60 : decode cX7_settle 60 = .ok (.iadd, 1) := by decide +kernel
theorem dX7_settle_61 : decode cX7_settle 61 = .ok (.putfield 202, 3) := by decide +kernel
theorem dX7_settle_64 : decode cX7_settle 64 = .ok (.iload_n 1, 1) := by decide +kernel
theorem dX7_settle_65 : decode cX7_settle 65 = .ok (.ireturn, 1) := by decide +kernel
set_option maxRecDepth 20000 in
theorem ggX7_line_X3_kept : GoodIn wsX7_line wsX3_kept := goodIn_r _ [13, 14, 15, 16, 17, 18, 19, 43, 44, 45, 46, 47, 48, 49] (by decide +kernel) (by decide +kernel)
set_option maxRecDepth 20000 in
theorem gX7_line_X3_kept : GoodIn wsX7_line (wsV RX7 209 RX3 yX3_kept wsX3_kept) := goodIn_app (goodIn_of _ (by decide +kernel)) ggX7_line_X3_kept
theorem dX7_line_0 : decode cX7_line 0 = .ok (.aload_n 0, 1) := by decide +kernel
theorem dX7_line_1 : decode cX7_line 1 = .ok (.getfield 47, 3) := by decide +kernel
theorem dX7_line_4 : decode cX7_line 4 = .ok (.getfield 205, 3) := by decide +kernel
theorem dX7_line_7 : decode cX7_line 7 = .ok (.astore_n 3, 1) := by decide +kernel
theorem dX7_line_8 : decode cX7_line 8 = .ok (.iload_n 1, 1) := by decide +kernel
theorem dX7_line_9 : decode cX7_line 9 = .ok (.ifCond .lt 11, 3) := by decide +kernel
theorem dX7_line_12 : decode cX7_line 12 = .ok (.iload_n 1, 1) := by decide +kernel
theorem dX7_line_13 : decode cX7_line 13 = .ok (.aload_n 3, 1) := by decide +kernel
theorem dX7_line_14 : decode cX7_line 14 = .ok (.invokevirtual 209, 3) := by decide +kernel
theorem dX7_line_17 : decode cX7_line 17 = .ok (.if_icmp .lt 7, 3) := by decide +kernel
theorem dX7_line_20 : decode cX7_line 20 = .ok (.ldc2_w 128, 3) := by decide +kernel
theorem dX7_line_23 : decode cX7_line 23 = .ok (.lreturn, 1) := by decide +kernel
theorem dX7_line_24 : decode cX7_line 24 = .ok (.iload_n 2, 1) := by decide +kernel
theorem dX7_line_25 : decode cX7_line 25 = .ok (.tableswitch 73 0 4 #[35, 43, 51, 59, 66], 35) := by decide +kernel
theorem dX7_line_60 : decode cX7_line 60 = .ok (.aload_n 3, 1) := by decide +kernel
theorem dX7_line_61 : decode cX7_line 61 = .ok (.getfield 214, 3) := by decide +kernel
theorem dX7_line_64 : decode cX7_line 64 = .ok (.iload_n 1, 1) := by decide +kernel
theorem dX7_line_65 : decode cX7_line 65 = .ok (.iaload, 1) := by decide +kernel
theorem dX7_line_66 : decode cX7_line 66 = .ok (.i2l, 1) := by decide +kernel
theorem dX7_line_67 : decode cX7_line 67 = .ok (.lreturn, 1) := by decide +kernel
theorem dX7_line_68 : decode cX7_line 68 = .ok (.aload_n 3, 1) := by decide +kernel
theorem dX7_line_69 : decode cX7_line 69 = .ok (.getfield 217, 3) := by decide +kernel
theorem dX7_line_72 : decode cX7_line 72 = .ok (.iload_n 1, 1) := by decide +kernel
theorem dX7_line_73 : decode cX7_line 73 = .ok (.iaload, 1) := by decide +kernel
theorem dX7_line_74 : decode cX7_line 74 = .ok (.i2l, 1) := by decide +kernel
theorem dX7_line_75 : decode cX7_line 75 = .ok (.lreturn, 1) := by decide +kernel
theorem dX7_line_76 : decode cX7_line 76 = .ok (.aload_n 3, 1) := by decide +kernel
theorem dX7_line_77 : decode cX7_line 77 = .ok (.getfield 220, 3) := by decide +kernel
theorem dX7_line_80 : decode cX7_line 80 = .ok (.iload_n 1, 1) := by decide +kernel
theorem dX7_line_81 : decode cX7_line 81 = .ok (.iaload, 1) := by decide +kernel
theorem dX7_line_82 : decode cX7_line 82 = .ok (.i2l, 1) := by decide +kernel
theorem dX7_line_83 : decode cX7_line 83 = .ok (.lreturn, 1) := by decide +kernel
theorem dX7_line_84 : decode cX7_line 84 = .ok (.aload_n 3, 1) := by decide +kernel
theorem dX7_line_85 : decode cX7_line 85 = .ok (.getfield 223, 3) := by decide +kernel
theorem dX7_line_88 : decode cX7_line 88 = .ok (.iload_n 1, 1) := by decide +kernel
theorem dX7_line_89 : decode cX7_line 89 = .ok (.laload, 1) := by decide +kernel
theorem dX7_line_90 : decode cX7_line 90 = .ok (.lreturn, 1) := by decide +kernel
theorem dX7_line_91 : decode cX7_line 91 = .ok (.aload_n 3, 1) := by decide +kernel
theorem dX7_line_92 : decode cX7_line 92 = .ok (.getfield 226, 3) := by decide +kernel
theorem dX7_line_95 : decode cX7_line 95 = .ok (.iload_n 1, 1) := by decide +kernel
theorem dX7_line_96 : decode cX7_line 96 = .ok (.laload, 1) := by decide +kernel
theorem dX7_line_97 : decode cX7_line 97 = .ok (.lreturn, 1) := by decide +kernel
theorem dX7_line_98 : decode cX7_line 98 = .ok (.ldc2_w 128, 3) := by decide +kernel
theorem dX7_line_101 : decode cX7_line 101 = .ok (.lreturn, 1) := by decide +kernel
set_option maxRecDepth 20000 in
theorem ggX7_count_X2_allFilled : GoodIn wsX7_count wsX2_allFilled := goodIn_r _ [18, 19, 40, 41, 42, 43, 44, 45, 46, 47, 48, 49, 50, 51, 52, 53, 54, 55] (by decide +kernel) (by decide +kernel)
set_option maxRecDepth 20000 in
theorem gX7_count_X2_allFilled : GoodIn wsX7_count (wsV RX7 233 RX2 yX2_allFilled wsX2_allFilled) := goodIn_app (goodIn_of _ (by decide +kernel)) ggX7_count_X2_allFilled
set_option maxRecDepth 20000 in
theorem ggX7_count_X4_tornAt : GoodIn wsX7_count wsX4_tornAt := goodIn_r _ [24, 25, 26, 27, 28, 29, 30, 31, 32, 77, 78, 79, 80, 81, 82] (by decide +kernel) (by decide +kernel)
set_option maxRecDepth 20000 in
theorem gX7_count_X4_tornAt : GoodIn wsX7_count (wsV RX7 242 RX4 yX4_tornAt wsX4_tornAt) := goodIn_app (goodIn_of _ (by decide +kernel)) ggX7_count_X4_tornAt
theorem dX7_count_0 : decode cX7_count 0 = .ok (.iload_n 1, 1) := by decide +kernel
theorem dX7_count_1 : decode cX7_count 1 = .ok (.tableswitch 145 0 7 #[47, 56, 65, 77, 85, 93, 105, 139], 47) := by decide +kernel
theorem dX7_count_48 : decode cX7_count 48 = .ok (.aload_n 0, 1) := by decide +kernel
theorem dX7_count_49 : decode cX7_count 49 = .ok (.getfield 47, 3) := by decide +kernel
theorem dX7_count_52 : decode cX7_count 52 = .ok (.getfield 105, 3) := by decide +kernel
theorem dX7_count_55 : decode cX7_count 55 = .ok (.i2l, 1) := by decide +kernel
theorem dX7_count_56 : decode cX7_count 56 = .ok (.lreturn, 1) := by decide +kernel
theorem dX7_count_57 : decode cX7_count 57 = .ok (.aload_n 0, 1) := by decide +kernel
theorem dX7_count_58 : decode cX7_count 58 = .ok (.getfield 19, 3) := by decide +kernel
theorem dX7_count_61 : decode cX7_count 61 = .ok (.getfield 86, 3) := by decide +kernel
theorem dX7_count_64 : decode cX7_count 64 = .ok (.i2l, 1) := by decide +kernel
theorem dX7_count_65 : decode cX7_count 65 = .ok (.lreturn, 1) := by decide +kernel
theorem dX7_count_66 : decode cX7_count 66 = .ok (.aload_n 0, 1) := by decide +kernel
theorem dX7_count_67 : decode cX7_count 67 = .ok (.getfield 47, 3) := by decide +kernel
theorem dX7_count_70 : decode cX7_count 70 = .ok (.getfield 205, 3) := by decide +kernel
theorem dX7_count_73 : decode cX7_count 73 = .ok (.getfield 229, 3) := by decide +kernel
theorem dX7_count_76 : decode cX7_count 76 = .ok (.i2l, 1) := by decide +kernel
theorem dX7_count_77 : decode cX7_count 77 = .ok (.lreturn, 1) := by decide +kernel
theorem dX7_count_78 : decode cX7_count 78 = .ok (.aload_n 0, 1) := by decide +kernel
theorem dX7_count_79 : decode cX7_count 79 = .ok (.getfield 47, 3) := by decide +kernel
theorem dX7_count_82 : decode cX7_count 82 = .ok (.getfield 230, 3) := by decide +kernel
theorem dX7_count_85 : decode cX7_count 85 = .ok (.lreturn, 1) := by decide +kernel
theorem dX7_count_86 : decode cX7_count 86 = .ok (.aload_n 0, 1) := by decide +kernel
theorem dX7_count_87 : decode cX7_count 87 = .ok (.getfield 47, 3) := by decide +kernel
theorem dX7_count_90 : decode cX7_count 90 = .ok (.invokevirtual 233, 3) := by decide +kernel
theorem dX7_count_93 : decode cX7_count 93 = .ok (.lreturn, 1) := by decide +kernel
theorem dX7_count_94 : decode cX7_count 94 = .ok (.aload_n 0, 1) := by decide +kernel
theorem dX7_count_95 : decode cX7_count 95 = .ok (.getfield 33, 3) := by decide +kernel
theorem dX7_count_98 : decode cX7_count 98 = .ok (.getfield 237, 3) := by decide +kernel
theorem dX7_count_101 : decode cX7_count 101 = .ok (.ldc2_w 240, 3) := by decide +kernel
theorem dX7_count_104 : decode cX7_count 104 = .ok (.lmul, 1) := by decide +kernel
theorem dX7_count_105 : decode cX7_count 105 = .ok (.lreturn, 1) := by decide +kernel
theorem dX7_count_106 : decode cX7_count 106 = .ok (.aload_n 0, 1) := by decide +kernel
theorem dX7_count_107 : decode cX7_count 107 = .ok (.getfield 47, 3) := by decide +kernel
theorem dX7_count_110 : decode cX7_count 110 = .ok (.getfield 105, 3) := by decide +kernel
theorem dX7_count_113 : decode cX7_count 113 = .ok (.bipush 40, 2) := by decide +kernel
theorem dX7_count_115 : decode cX7_count 115 = .ok (.if_icmp .ge 21, 3) := by decide +kernel
theorem dX7_count_118 : decode cX7_count 118 = .ok (.aload_n 0, 1) := by decide +kernel
theorem dX7_count_119 : decode cX7_count 119 = .ok (.getfield 26, 3) := by decide +kernel
theorem dX7_count_122 : decode cX7_count 122 = .ok (.aload_n 0, 1) := by decide +kernel
theorem dX7_count_123 : decode cX7_count 123 = .ok (.getfield 47, 3) := by decide +kernel
theorem dX7_count_126 : decode cX7_count 126 = .ok (.getfield 105, 3) := by decide +kernel
theorem dX7_count_129 : decode cX7_count 129 = .ok (.invokevirtual 242, 3) := by decide +kernel
theorem dX7_count_132 : decode cX7_count 132 = .ok (.i2l, 1) := by decide +kernel
theorem dX7_count_133 : decode cX7_count 133 = .ok (.goto 6, 3) := by decide +kernel
theorem dX7_count_136 : decode cX7_count 136 = .ok (.ldc2_w 128, 3) := by decide +kernel
theorem dX7_count_139 : decode cX7_count 139 = .ok (.lreturn, 1) := by decide +kernel
theorem dX7_count_140 : decode cX7_count 140 = .ok (.aload_n 0, 1) := by decide +kernel
theorem dX7_count_141 : decode cX7_count 141 = .ok (.getfield 202, 3) := by decide +kernel
theorem dX7_count_144 : decode cX7_count 144 = .ok (.i2l, 1) := by decide +kernel
theorem dX7_count_145 : decode cX7_count 145 = .ok (.lreturn, 1) := by decide +kernel
theorem dX7_count_146 : decode cX7_count 146 = .ok (.ldc2_w 128, 3) := by decide +kernel
theorem dX7_count_149 : decode cX7_count 149 = .ok (.lreturn, 1) := by decide +kernel
set_option maxRecDepth 20000 in
theorem ggX7_owedTo_X2_worth : GoodIn wsX7_owedTo wsX2_worth := goodIn_r _ [7, 8, 9, 10, 11, 12, 13, 6, 14, 15, 16, 17, 18, 19, 20, 28, 29, 30, 31, 32, 33, 34, 35, 36, 37, 38, 39, 40, 41, 42, 43] (by decide +kernel) (by decide +kernel)
set_option maxRecDepth 20000 in
theorem gX7_owedTo_X2_worth : GoodIn wsX7_owedTo (wsV RX7 246 RX2 yX2_worth wsX2_worth) := goodIn_app (goodIn_of _ (by decide +kernel)) ggX7_owedTo_X2_worth
theorem dX7_owedTo_0 : decode cX7_owedTo 0 = .ok (.aload_n 0, 1) := by decide +kernel
theorem dX7_owedTo_1 : decode cX7_owedTo 1 = .ok (.getfield 51, 3) := by decide +kernel
theorem dX7_owedTo_4 : decode cX7_owedTo 4 = .ok (.iload_n 1, 1) := by decide +kernel
theorem dX7_owedTo_5 : decode cX7_owedTo 5 = .ok (.invokevirtual 246, 3) := by decide +kernel
theorem dX7_owedTo_8 : decode cX7_owedTo 8 = .ok (.aload_n 0, 1) := by decide +kernel
theorem dX7_owedTo_9 : decode cX7_owedTo 9 = .ok (.getfield 47, 3) := by decide +kernel
theorem dX7_owedTo_12 : decode cX7_owedTo 12 = .ok (.iload_n 1, 1) := by decide +kernel
theorem dX7_owedTo_13 : decode cX7_owedTo 13 = .ok (.invokevirtual 246, 3) := by decide +kernel
theorem dX7_owedTo_16 : decode cX7_owedTo 16 = .ok (.lsub, 1) := by decide +kernel
theorem dX7_owedTo_17 : decode cX7_owedTo 17 = .ok (.lreturn, 1) := by decide +kernel
theorem dX7_isClosed_0 : decode cX7_isClosed 0 = .ok (.iload_n 1, 1) := by decide +kernel
theorem dX7_isClosed_1 : decode cX7_isClosed 1 = .ok (.ifCond .lt 18, 3) := by decide +kernel
theorem dX7_isClosed_4 : decode cX7_isClosed 4 = .ok (.iload_n 1, 1) := by decide +kernel
theorem dX7_isClosed_5 : decode cX7_isClosed 5 = .ok (.aload_n 0, 1) := by decide +kernel
theorem dX7_isClosed_6 : decode cX7_isClosed 6 = .ok (.getfield 47, 3) := by decide +kernel
theorem dX7_isClosed_9 : decode cX7_isClosed 9 = .ok (.getfield 105, 3) := by decide +kernel
theorem dX7_isClosed_12 : decode cX7_isClosed 12 = .ok (.if_icmp .ge 7, 3) := by decide +kernel
theorem dX7_isClosed_15 : decode cX7_isClosed 15 = .ok (.iconst 1, 1) := by decide +kernel
theorem dX7_isClosed_16 : decode cX7_isClosed 16 = .ok (.goto 4, 3) := by decide +kernel
theorem dX7_isClosed_19 : decode cX7_isClosed 19 = .ok (.iconst 0, 1) := by decide +kernel
theorem dX7_isClosed_20 : decode cX7_isClosed 20 = .ok (.ireturn, 1) := by decide +kernel
theorem dX7_isTheTerm_0 : decode cX7_isTheTerm 0 = .ok (.iload_n 1, 1) := by decide +kernel
theorem dX7_isTheTerm_1 : decode cX7_isTheTerm 1 = .ok (.aload_n 0, 1) := by decide +kernel
theorem dX7_isTheTerm_2 : decode cX7_isTheTerm 2 = .ok (.getfield 47, 3) := by decide +kernel
theorem dX7_isTheTerm_5 : decode cX7_isTheTerm 5 = .ok (.getfield 105, 3) := by decide +kernel
theorem dX7_isTheTerm_8 : decode cX7_isTheTerm 8 = .ok (.if_icmp .ne 13, 3) := by decide +kernel
theorem dX7_isTheTerm_11 : decode cX7_isTheTerm 11 = .ok (.iload_n 1, 1) := by decide +kernel
theorem dX7_isTheTerm_12 : decode cX7_isTheTerm 12 = .ok (.bipush 40, 2) := by decide +kernel
theorem dX7_isTheTerm_14 : decode cX7_isTheTerm 14 = .ok (.if_icmp .ge 7, 3) := by decide +kernel
theorem dX7_isTheTerm_17 : decode cX7_isTheTerm 17 = .ok (.iconst 1, 1) := by decide +kernel
theorem dX7_isTheTerm_18 : decode cX7_isTheTerm 18 = .ok (.goto 4, 3) := by decide +kernel
theorem dX7_isTheTerm_21 : decode cX7_isTheTerm 21 = .ok (.iconst 0, 1) := by decide +kernel
theorem dX7_isTheTerm_22 : decode cX7_isTheTerm 22 = .ok (.ireturn, 1) := by decide +kernel
theorem dX7_isDayAhead_0 : decode cX7_isDayAhead 0 = .ok (.iload_n 1, 1) := by decide +kernel
theorem dX7_isDayAhead_1 : decode cX7_isDayAhead 1 = .ok (.aload_n 0, 1) := by decide +kernel
theorem dX7_isDayAhead_2 : decode cX7_isDayAhead 2 = .ok (.getfield 47, 3) := by decide +kernel
theorem dX7_isDayAhead_5 : decode cX7_isDayAhead 5 = .ok (.getfield 105, 3) := by decide +kernel
theorem dX7_isDayAhead_8 : decode cX7_isDayAhead 8 = .ok (.bipush 90, 2) := by decide +kernel
theorem dX7_isDayAhead_10 : decode cX7_isDayAhead 10 = .ok (.imul, 1) := by decide +kernel
theorem dX7_isDayAhead_11 : decode cX7_isDayAhead 11 = .ok (.if_icmp .lt 14, 3) := by decide +kernel
theorem dX7_isDayAhead_14 : decode cX7_isDayAhead 14 = .ok (.iload_n 1, 1) := by decide +kernel
theorem dX7_isDayAhead_15 : decode cX7_isDayAhead 15 = .ok (.sipush 3599, 3) := by decide +kernel
theorem dX7_isDayAhead_18 : decode cX7_isDayAhead 18 = .ok (.if_icmp .gt 7, 3) := by decide +kernel
theorem dX7_isDayAhead_21 : decode cX7_isDayAhead 21 = .ok (.iconst 1, 1) := by decide +kernel
theorem dX7_isDayAhead_22 : decode cX7_isDayAhead 22 = .ok (.goto 4, 3) := by decide +kernel
theorem dX7_isDayAhead_25 : decode cX7_isDayAhead 25 = .ok (.iconst 0, 1) := by decide +kernel
theorem dX7_isDayAhead_26 : decode cX7_isDayAhead 26 = .ok (.ireturn, 1) := by decide +kernel
set_option maxRecDepth 20000 in
theorem ggX7_reportFits_X7_isWork : GoodIn wsX7_reportFits wsX7_isWork := goodIn_r _ [6] (by decide +kernel) (by decide +kernel)
set_option maxRecDepth 20000 in
theorem gX7_reportFits_X7_isWork : GoodIn wsX7_reportFits (va_wsS RX7 54 yX7_isWork wsX7_isWork) := goodIn_app (goodIn_of _ (by decide +kernel)) ggX7_reportFits_X7_isWork
set_option maxRecDepth 20000 in
theorem ggX7_reportFits_X7_isTold : GoodIn wsX7_reportFits wsX7_isTold := goodIn_r _ [9, 10] (by decide +kernel) (by decide +kernel)
set_option maxRecDepth 20000 in
theorem gX7_reportFits_X7_isTold : GoodIn wsX7_reportFits (va_wsS RX7 249 yX7_isTold wsX7_isTold) := goodIn_app (goodIn_of _ (by decide +kernel)) ggX7_reportFits_X7_isTold
theorem dX7_reportFits_0 : decode cX7_reportFits 0 = .ok (.iload_n 1, 1) := by decide +kernel
theorem dX7_reportFits_1 : decode cX7_reportFits 1 = .ok (.invokestatic 54, 3) := by decide +kernel
theorem dX7_reportFits_4 : decode cX7_reportFits 4 = .ok (.ifCond .eq 22, 3) := by decide +kernel
theorem dX7_reportFits_7 : decode cX7_reportFits 7 = .ok (.aload_n 0, 1) := by decide +kernel
theorem dX7_reportFits_8 : decode cX7_reportFits 8 = .ok (.getfield 10, 3) := by decide +kernel
theorem dX7_reportFits_11 : decode cX7_reportFits 11 = .ok (.getfield 82, 3) := by decide +kernel
theorem dX7_reportFits_14 : decode cX7_reportFits 14 = .ok (.iload_n 1, 1) := by decide +kernel
theorem dX7_reportFits_15 : decode cX7_reportFits 15 = .ok (.iaload, 1) := by decide +kernel
theorem dX7_reportFits_16 : decode cX7_reportFits 16 = .ok (.ifCond .eq 10, 3) := by decide +kernel
theorem dX7_reportFits_19 : decode cX7_reportFits 19 = .ok (.iload_n 2, 1) := by decide +kernel
theorem dX7_reportFits_20 : decode cX7_reportFits 20 = .ok (.invokestatic 249, 3) := by decide +kernel
theorem dX7_reportFits_23 : decode cX7_reportFits 23 = .ok (.ifCond .ne 5, 3) := by decide +kernel
theorem dX7_reportFits_26 : decode cX7_reportFits 26 = .ok (.iconst 0, 1) := by decide +kernel
theorem dX7_reportFits_27 : decode cX7_reportFits 27 = .ok (.ireturn, 1) := by decide +kernel
theorem dX7_reportFits_28 : decode cX7_reportFits 28 = .ok (.iload 5, 2) := by decide +kernel
theorem dX7_reportFits_30 : decode cX7_reportFits 30 = .ok (.ifCond .eq 18, 3) := by decide +kernel
theorem dX7_reportFits_33 : decode cX7_reportFits 33 = .ok (.iload_n 3, 1) := by decide +kernel
theorem dX7_reportFits_34 : decode cX7_reportFits 34 = .ok (.invokestatic 249, 3) := by decide +kernel
theorem dX7_reportFits_37 : decode cX7_reportFits 37 = .ok (.ifCond .eq 15, 3) := by decide +kernel
theorem dX7_reportFits_40 : decode cX7_reportFits 40 = .ok (.iload 4, 2) := by decide +kernel
theorem dX7_reportFits_42 : decode cX7_reportFits 42 = .ok (.invokestatic 249, 3) := by decide +kernel
theorem dX7_reportFits_45 : decode cX7_reportFits 45 = .ok (.ifCond .eq 7, 3) := by decide +kernel
theorem dX7_reportFits_48 : decode cX7_reportFits 48 = .ok (.iconst 1, 1) := by decide +kernel
theorem dX7_reportFits_49 : decode cX7_reportFits 49 = .ok (.goto 4, 3) := by decide +kernel
theorem dX7_reportFits_52 : decode cX7_reportFits 52 = .ok (.iconst 0, 1) := by decide +kernel
theorem dX7_reportFits_53 : decode cX7_reportFits 53 = .ok (.ireturn, 1) := by decide +kernel
set_option maxRecDepth 20000 in
theorem ggX7_termsFit_X7_isPart : GoodIn wsX7_termsFit wsX7_isPart := goodIn_r _ [4] (by decide +kernel) (by decide +kernel)
set_option maxRecDepth 20000 in
theorem gX7_termsFit_X7_isPart : GoodIn wsX7_termsFit (va_wsS RX7 68 yX7_isPart wsX7_isPart) := goodIn_app (goodIn_of _ (by decide +kernel)) ggX7_termsFit_X7_isPart
set_option maxRecDepth 20000 in
theorem ggX7_termsFit_X7_isSum : GoodIn wsX7_termsFit wsX7_isSum := goodIn_r _ [7, 8] (by decide +kernel) (by decide +kernel)
set_option maxRecDepth 20000 in
theorem gX7_termsFit_X7_isSum : GoodIn wsX7_termsFit (va_wsS RX7 124 yX7_isSum wsX7_isSum) := goodIn_app (goodIn_of _ (by decide +kernel)) ggX7_termsFit_X7_isSum
theorem dX7_termsFit_0 : decode cX7_termsFit 0 = .ok (.iload_n 0, 1) := by decide +kernel
theorem dX7_termsFit_1 : decode cX7_termsFit 1 = .ok (.tableswitch 100 0 4 #[35, 40, 40, 45, 76], 35) := by decide +kernel
theorem dX7_termsFit_36 : decode cX7_termsFit 36 = .ok (.iload_n 1, 1) := by decide +kernel
theorem dX7_termsFit_37 : decode cX7_termsFit 37 = .ok (.invokestatic 68, 3) := by decide +kernel
theorem dX7_termsFit_40 : decode cX7_termsFit 40 = .ok (.ireturn, 1) := by decide +kernel
theorem dX7_termsFit_41 : decode cX7_termsFit 41 = .ok (.iload_n 1, 1) := by decide +kernel
theorem dX7_termsFit_42 : decode cX7_termsFit 42 = .ok (.invokestatic 124, 3) := by decide +kernel
theorem dX7_termsFit_45 : decode cX7_termsFit 45 = .ok (.ireturn, 1) := by decide +kernel
theorem dX7_termsFit_46 : decode cX7_termsFit 46 = .ok (.iload_n 1, 1) := by decide +kernel
theorem dX7_termsFit_47 : decode cX7_termsFit 47 = .ok (.invokestatic 68, 3) := by decide +kernel
theorem dX7_termsFit_50 : decode cX7_termsFit 50 = .ok (.ifCond .eq 25, 3) := by decide +kernel
theorem dX7_termsFit_53 : decode cX7_termsFit 53 = .ok (.iload_n 2, 1) := by decide +kernel
theorem dX7_termsFit_54 : decode cX7_termsFit 54 = .ok (.invokestatic 124, 3) := by decide +kernel
theorem dX7_termsFit_57 : decode cX7_termsFit 57 = .ok (.ifCond .eq 18, 3) := by decide +kernel
theorem dX7_termsFit_60 : decode cX7_termsFit 60 = .ok (.iload_n 3, 1) := by decide +kernel
theorem dX7_termsFit_61 : decode cX7_termsFit 61 = .ok (.ifCond .lt 14, 3) := by decide +kernel
theorem dX7_termsFit_64 : decode cX7_termsFit 64 = .ok (.iload_n 3, 1) := by decide +kernel
theorem dX7_termsFit_65 : decode cX7_termsFit 65 = .ok (.sipush 1000, 3) := by decide +kernel
theorem dX7_termsFit_68 : decode cX7_termsFit 68 = .ok (.if_icmp .gt 7, 3) := by decide +kernel
theorem dX7_termsFit_71 : decode cX7_termsFit 71 = .ok (.iconst 1, 1) := by decide +kernel
theorem dX7_termsFit_72 : decode cX7_termsFit 72 = .ok (.goto 4, 3) := by decide +kernel
theorem dX7_termsFit_75 : decode cX7_termsFit 75 = .ok (.iconst 0, 1) := by decide +kernel
theorem dX7_termsFit_76 : decode cX7_termsFit 76 = .ok (.ireturn, 1) := by decide +kernel
theorem dX7_termsFit_77 : decode cX7_termsFit 77 = .ok (.iload_n 1, 1) := by decide +kernel
theorem dX7_termsFit_78 : decode cX7_termsFit 78 = .ok (.invokestatic 68, 3) := by decide +kernel
theorem dX7_termsFit_81 : decode cX7_termsFit 81 = .ok (.ifCond .eq 18, 3) := by decide +kernel
theorem dX7_termsFit_84 : decode cX7_termsFit 84 = .ok (.iload_n 2, 1) := by decide +kernel
theorem dX7_termsFit_85 : decode cX7_termsFit 85 = .ok (.iconst 1, 1) := by decide +kernel
theorem dX7_termsFit_86 : decode cX7_termsFit 86 = .ok (.if_icmp .lt 13, 3) := by decide +kernel
theorem dX7_termsFit_89 : decode cX7_termsFit 89 = .ok (.iload_n 2, 1) := by decide +kernel
theorem dX7_termsFit_90 : decode cX7_termsFit 90 = .ok (.bipush 8, 2) := by decide +kernel
theorem dX7_termsFit_92 : decode cX7_termsFit 92 = .ok (.if_icmp .gt 7, 3) := by decide +kernel
theorem dX7_termsFit_95 : decode cX7_termsFit 95 = .ok (.iconst 1, 1) := by decide +kernel
theorem dX7_termsFit_96 : decode cX7_termsFit 96 = .ok (.goto 4, 3) := by decide +kernel
theorem dX7_termsFit_99 : decode cX7_termsFit 99 = .ok (.iconst 0, 1) := by decide +kernel
theorem dX7_termsFit_100 : decode cX7_termsFit 100 = .ok (.ireturn, 1) := by decide +kernel
theorem dX7_termsFit_101 : decode cX7_termsFit 101 = .ok (.iconst 0, 1) := by decide +kernel
theorem dX7_termsFit_102 : decode cX7_termsFit 102 = .ok (.ireturn, 1) := by decide +kernel
theorem dX7_passesOn_0 : decode cX7_passesOn 0 = .ok (.iload_n 0, 1) := by decide +kernel
theorem dX7_passesOn_1 : decode cX7_passesOn 1 = .ok (.ifCond .eq 8, 3) := by decide +kernel
theorem dX7_passesOn_4 : decode cX7_passesOn 4 = .ok (.iload_n 0, 1) := by decide +kernel
theorem dX7_passesOn_5 : decode cX7_passesOn 5 = .ok (.iconst 3, 1) := by decide +kernel
theorem dX7_passesOn_6 : decode cX7_passesOn 6 = .ok (.if_icmp .ne 7, 3) := by decide +kernel
theorem dX7_passesOn_9 : decode cX7_passesOn 9 = .ok (.iconst 1, 1) := by decide +kernel
theorem dX7_passesOn_10 : decode cX7_passesOn 10 = .ok (.goto 4, 3) := by decide +kernel
theorem dX7_passesOn_13 : decode cX7_passesOn 13 = .ok (.iconst 0, 1) := by decide +kernel
theorem dX7_passesOn_14 : decode cX7_passesOn 14 = .ok (.ireturn, 1) := by decide +kernel
theorem dX7_isHand_0 : decode cX7_isHand 0 = .ok (.iload_n 0, 1) := by decide +kernel
theorem dX7_isHand_1 : decode cX7_isHand 1 = .ok (.ifCond .lt 13, 3) := by decide +kernel
theorem dX7_isHand_4 : decode cX7_isHand 4 = .ok (.iload_n 0, 1) := by decide +kernel
theorem dX7_isHand_5 : decode cX7_isHand 5 = .ok (.bipush 12, 2) := by decide +kernel
theorem dX7_isHand_7 : decode cX7_isHand 7 = .ok (.if_icmp .ge 7, 3) := by decide +kernel
theorem dX7_isHand_10 : decode cX7_isHand 10 = .ok (.iconst 1, 1) := by decide +kernel
theorem dX7_isHand_11 : decode cX7_isHand 11 = .ok (.goto 4, 3) := by decide +kernel
theorem dX7_isHand_14 : decode cX7_isHand 14 = .ok (.iconst 0, 1) := by decide +kernel
theorem dX7_isHand_15 : decode cX7_isHand 15 = .ok (.ireturn, 1) := by decide +kernel
theorem dX7_isWork_0 : decode cX7_isWork 0 = .ok (.iload_n 0, 1) := by decide +kernel
theorem dX7_isWork_1 : decode cX7_isWork 1 = .ok (.ifCond .lt 13, 3) := by decide +kernel
theorem dX7_isWork_4 : decode cX7_isWork 4 = .ok (.iload_n 0, 1) := by decide +kernel
theorem dX7_isWork_5 : decode cX7_isWork 5 = .ok (.bipush 12, 2) := by decide +kernel
theorem dX7_isWork_7 : decode cX7_isWork 7 = .ok (.if_icmp .ge 7, 3) := by decide +kernel
theorem dX7_isWork_10 : decode cX7_isWork 10 = .ok (.iconst 1, 1) := by decide +kernel
theorem dX7_isWork_11 : decode cX7_isWork 11 = .ok (.goto 4, 3) := by decide +kernel
theorem dX7_isWork_14 : decode cX7_isWork 14 = .ok (.iconst 0, 1) := by decide +kernel
theorem dX7_isWork_15 : decode cX7_isWork 15 = .ok (.ireturn, 1) := by decide +kernel
theorem dX7_isPart_0 : decode cX7_isPart 0 = .ok (.iload_n 0, 1) := by decide +kernel
theorem dX7_isPart_1 : decode cX7_isPart 1 = .ok (.iconst 1, 1) := by decide +kernel
theorem dX7_isPart_2 : decode cX7_isPart 2 = .ok (.if_icmp .lt 14, 3) := by decide +kernel
theorem dX7_isPart_5 : decode cX7_isPart 5 = .ok (.iload_n 0, 1) := by decide +kernel
theorem dX7_isPart_6 : decode cX7_isPart 6 = .ok (.sipush 1000, 3) := by decide +kernel
theorem dX7_isPart_9 : decode cX7_isPart 9 = .ok (.if_icmp .gt 7, 3) := by decide +kernel
theorem dX7_isPart_12 : decode cX7_isPart 12 = .ok (.iconst 1, 1) := by decide +kernel
theorem dX7_isPart_13 : decode cX7_isPart 13 = .ok (.goto 4, 3) := by decide +kernel
theorem dX7_isPart_16 : decode cX7_isPart 16 = .ok (.iconst 0, 1) := by decide +kernel
theorem dX7_isPart_17 : decode cX7_isPart 17 = .ok (.ireturn, 1) := by decide +kernel
theorem dX7_isSum_0 : decode cX7_isSum 0 = .ok (.iload_n 0, 1) := by decide +kernel
theorem dX7_isSum_1 : decode cX7_isSum 1 = .ok (.iconst 1, 1) := by decide +kernel
theorem dX7_isSum_2 : decode cX7_isSum 2 = .ok (.if_icmp .lt 13, 3) := by decide +kernel
theorem dX7_isSum_5 : decode cX7_isSum 5 = .ok (.iload_n 0, 1) := by decide +kernel
theorem dX7_isSum_6 : decode cX7_isSum 6 = .ok (.ldc 252, 2) := by decide +kernel
theorem dX7_isSum_8 : decode cX7_isSum 8 = .ok (.if_icmp .gt 7, 3) := by decide +kernel
theorem dX7_isSum_11 : decode cX7_isSum 11 = .ok (.iconst 1, 1) := by decide +kernel
theorem dX7_isSum_12 : decode cX7_isSum 12 = .ok (.goto 4, 3) := by decide +kernel
theorem dX7_isSum_15 : decode cX7_isSum 15 = .ok (.iconst 0, 1) := by decide +kernel
theorem dX7_isSum_16 : decode cX7_isSum 16 = .ok (.ireturn, 1) := by decide +kernel
theorem dX7_isTold_0 : decode cX7_isTold 0 = .ok (.iload_n 0, 1) := by decide +kernel
theorem dX7_isTold_1 : decode cX7_isTold 1 = .ok (.ifCond .lt 13, 3) := by decide +kernel
theorem dX7_isTold_4 : decode cX7_isTold 4 = .ok (.iload_n 0, 1) := by decide +kernel
theorem dX7_isTold_5 : decode cX7_isTold 5 = .ok (.ldc 252, 2) := by decide +kernel
theorem dX7_isTold_7 : decode cX7_isTold 7 = .ok (.if_icmp .gt 7, 3) := by decide +kernel
theorem dX7_isTold_10 : decode cX7_isTold 10 = .ok (.iconst 1, 1) := by decide +kernel
theorem dX7_isTold_11 : decode cX7_isTold 11 = .ok (.goto 4, 3) := by decide +kernel
theorem dX7_isTold_14 : decode cX7_isTold 14 = .ok (.iconst 0, 1) := by decide +kernel
theorem dX7_isTold_15 : decode cX7_isTold 15 = .ok (.ireturn, 1) := by decide +kernel
set_option maxRecDepth 20000 in
theorem ggX7_isSharer_X7_isHand : GoodIn wsX7_isSharer wsX7_isHand := goodIn_r _ [4] (by decide +kernel) (by decide +kernel)
set_option maxRecDepth 20000 in
theorem gX7_isSharer_X7_isHand : GoodIn wsX7_isSharer (va_wsS RX7 65 yX7_isHand wsX7_isHand) := goodIn_app (goodIn_of _ (by decide +kernel)) ggX7_isSharer_X7_isHand
set_option maxRecDepth 20000 in
theorem ggX7_isSharer_X7_isPart : GoodIn wsX7_isSharer wsX7_isPart := goodIn_r _ [7] (by decide +kernel) (by decide +kernel)
set_option maxRecDepth 20000 in
theorem gX7_isSharer_X7_isPart : GoodIn wsX7_isSharer (va_wsS RX7 68 yX7_isPart wsX7_isPart) := goodIn_app (goodIn_of _ (by decide +kernel)) ggX7_isSharer_X7_isPart
theorem dX7_isSharer_0 : decode cX7_isSharer 0 = .ok (.iload_n 0, 1) := by decide +kernel
theorem dX7_isSharer_1 : decode cX7_isSharer 1 = .ok (.iconst (-1), 1) := by decide +kernel
theorem dX7_isSharer_2 : decode cX7_isSharer 2 = .ok (.if_icmp .ne 15, 3) := by decide +kernel
theorem dX7_isSharer_5 : decode cX7_isSharer 5 = .ok (.iload_n 1, 1) := by decide +kernel
theorem dX7_isSharer_6 : decode cX7_isSharer 6 = .ok (.ifCond .ne 7, 3) := by decide +kernel
theorem dX7_isSharer_9 : decode cX7_isSharer 9 = .ok (.iconst 1, 1) := by decide +kernel
theorem dX7_isSharer_10 : decode cX7_isSharer 10 = .ok (.goto 26, 3) := by decide +kernel
theorem dX7_isSharer_13 : decode cX7_isSharer 13 = .ok (.iconst 0, 1) := by decide +kernel
theorem dX7_isSharer_14 : decode cX7_isSharer 14 = .ok (.goto 22, 3) := by decide +kernel
theorem dX7_isSharer_17 : decode cX7_isSharer 17 = .ok (.iload_n 0, 1) := by decide +kernel
theorem dX7_isSharer_18 : decode cX7_isSharer 18 = .ok (.invokestatic 65, 3) := by decide +kernel
theorem dX7_isSharer_21 : decode cX7_isSharer 21 = .ok (.ifCond .eq 14, 3) := by decide +kernel
theorem dX7_isSharer_24 : decode cX7_isSharer 24 = .ok (.iload_n 1, 1) := by decide +kernel
theorem dX7_isSharer_25 : decode cX7_isSharer 25 = .ok (.invokestatic 68, 3) := by decide +kernel
theorem dX7_isSharer_28 : decode cX7_isSharer 28 = .ok (.ifCond .eq 7, 3) := by decide +kernel
theorem dX7_isSharer_31 : decode cX7_isSharer 31 = .ok (.iconst 1, 1) := by decide +kernel
theorem dX7_isSharer_32 : decode cX7_isSharer 32 = .ok (.goto 4, 3) := by decide +kernel
theorem dX7_isSharer_35 : decode cX7_isSharer 35 = .ok (.iconst 0, 1) := by decide +kernel
theorem dX7_isSharer_36 : decode cX7_isSharer 36 = .ok (.ireturn, 1) := by decide +kernel
theorem dX8_init_0 : decode cX8_init 0 = .ok (.aload_n 0, 1) := by decide +kernel
theorem dX8_init_1 : decode cX8_init 1 = .ok (.invokespecial 1, 3) := by decide +kernel
theorem dX8_init_4 : decode cX8_init 4 = .ok (.aload_n 0, 1) := by decide +kernel
theorem dX8_init_5 : decode cX8_init 5 = .ok (.bipush 12, 2) := by decide +kernel
theorem dX8_init_7 : decode cX8_init 7 = .ok (.newarray .int, 2) := by decide +kernel
theorem dX8_init_9 : decode cX8_init 9 = .ok (.putfield 7, 3) := by decide +kernel
theorem dX8_init_12 : decode cX8_init 12 = .ok (.aload_n 0, 1) := by decide +kernel
theorem dX8_init_13 : decode cX8_init 13 = .ok (.bipush 72, 2) := by decide +kernel
theorem dX8_init_15 : decode cX8_init 15 = .ok (.newarray .int, 2) := by decide +kernel
theorem dX8_init_17 : decode cX8_init 17 = .ok (.putfield 13, 3) := by decide +kernel
theorem dX8_init_20 : decode cX8_init 20 = .ok (.aload_n 0, 1) := by decide +kernel
theorem dX8_init_21 : decode cX8_init 21 = .ok (.sipush 216, 3) := by decide +kernel
theorem dX8_init_24 : decode cX8_init 24 = .ok (.newarray .int, 2) := by decide +kernel
theorem dX8_init_26 : decode cX8_init 26 = .ok (.putfield 16, 3) := by decide +kernel
theorem dX8_init_29 : decode cX8_init 29 = .ok (.aload_n 0, 1) := by decide +kernel
theorem dX8_init_30 : decode cX8_init 30 = .ok (.sipush 216, 3) := by decide +kernel
theorem dX8_init_33 : decode cX8_init 33 = .ok (.newarray .int, 2) := by decide +kernel
theorem dX8_init_35 : decode cX8_init 35 = .ok (.putfield 19, 3) := by decide +kernel
theorem dX8_init_38 : decode cX8_init 38 = .ok (.aload_n 0, 1) := by decide +kernel
theorem dX8_init_39 : decode cX8_init 39 = .ok (.bipush 24, 2) := by decide +kernel
theorem dX8_init_41 : decode cX8_init 41 = .ok (.newarray .int, 2) := by decide +kernel
theorem dX8_init_43 : decode cX8_init 43 = .ok (.putfield 22, 3) := by decide +kernel
theorem dX8_init_46 : decode cX8_init 46 = .ok (.aload_n 0, 1) := by decide +kernel
theorem dX8_init_47 : decode cX8_init 47 = .ok (.bipush 24, 2) := by decide +kernel
theorem dX8_init_49 : decode cX8_init 49 = .ok (.newarray .int, 2) := by decide +kernel
theorem dX8_init_51 : decode cX8_init 51 = .ok (.putfield 25, 3) := by decide +kernel
theorem dX8_init_54 : decode cX8_init 54 = .ok (.aload_n 0, 1) := by decide +kernel
theorem dX8_init_55 : decode cX8_init 55 = .ok (.bipush 24, 2) := by decide +kernel
theorem dX8_init_57 : decode cX8_init 57 = .ok (.newarray .int, 2) := by decide +kernel
theorem dX8_init_59 : decode cX8_init 59 = .ok (.putfield 28, 3) := by decide +kernel
theorem dX8_init_62 : decode cX8_init 62 = .ok (.aload_n 0, 1) := by decide +kernel
theorem dX8_init_63 : decode cX8_init 63 = .ok (.bipush 24, 2) := by decide +kernel
theorem dX8_init_65 : decode cX8_init 65 = .ok (.newarray .int, 2) := by decide +kernel
theorem dX8_init_67 : decode cX8_init 67 = .ok (.putfield 31, 3) := by decide +kernel
theorem dX8_init_70 : decode cX8_init 70 = .ok (.aload_n 0, 1) := by decide +kernel
theorem dX8_init_71 : decode cX8_init 71 = .ok (.bipush 24, 2) := by decide +kernel
theorem dX8_init_73 : decode cX8_init 73 = .ok (.newarray .int, 2) := by decide +kernel
theorem dX8_init_75 : decode cX8_init 75 = .ok (.putfield 34, 3) := by decide +kernel
theorem dX8_init_78 : decode cX8_init 78 = .ok (.aload_n 0, 1) := by decide +kernel
theorem dX8_init_79 : decode cX8_init 79 = .ok (.bipush 24, 2) := by decide +kernel
theorem dX8_init_81 : decode cX8_init 81 = .ok (.newarray .int, 2) := by decide +kernel
theorem dX8_init_83 : decode cX8_init 83 = .ok (.putfield 37, 3) := by decide +kernel
theorem dX8_init_86 : decode cX8_init 86 = .ok (.aload_n 0, 1) := by decide +kernel
theorem dX8_init_87 : decode cX8_init 87 = .ok (.bipush 24, 2) := by decide +kernel
theorem dX8_init_89 : decode cX8_init 89 = .ok (.newarray .int, 2) := by decide +kernel
theorem dX8_init_91 : decode cX8_init 91 = .ok (.putfield 40, 3) := by decide +kernel
theorem dX8_init_94 : decode cX8_init 94 = .ok (.aload_n 0, 1) := by decide +kernel
theorem dX8_init_95 : decode cX8_init 95 = .ok (.bipush 24, 2) := by decide +kernel
theorem dX8_init_97 : decode cX8_init 97 = .ok (.newarray .int, 2) := by decide +kernel
theorem dX8_init_99 : decode cX8_init 99 = .ok (.putfield 43, 3) := by decide +kernel
theorem dX8_init_102 : decode cX8_init 102 = .ok (.aload_n 0, 1) := by decide +kernel
theorem dX8_init_103 : decode cX8_init 103 = .ok (.sipush 480, 3) := by decide +kernel
theorem dX8_init_106 : decode cX8_init 106 = .ok (.newarray .int, 2) := by decide +kernel
theorem dX8_init_108 : decode cX8_init 108 = .ok (.putfield 46, 3) := by decide +kernel
theorem dX8_init_111 : decode cX8_init 111 = .ok (.aload_n 0, 1) := by decide +kernel
theorem dX8_init_112 : decode cX8_init 112 = .ok (.sipush 480, 3) := by decide +kernel
theorem dX8_init_115 : decode cX8_init 115 = .ok (.newarray .int, 2) := by decide +kernel
theorem dX8_init_117 : decode cX8_init 117 = .ok (.putfield 49, 3) := by decide +kernel
theorem dX8_init_120 : decode cX8_init 120 = .ok (.aload_n 0, 1) := by decide +kernel
theorem dX8_init_121 : decode cX8_init 121 = .ok (.sipush 480, 3) := by decide +kernel
theorem dX8_init_124 : decode cX8_init 124 = .ok (.newarray .int, 2) := by decide +kernel
theorem dX8_init_126 : decode cX8_init 126 = .ok (.putfield 52, 3) := by decide +kernel
theorem dX8_init_129 : decode cX8_init 129 = .ok (.aload_n 0, 1) := by decide +kernel
theorem dX8_init_130 : decode cX8_init 130 = .ok (.sipush 480, 3) := by decide +kernel
theorem dX8_init_133 : decode cX8_init 133 = .ok (.newarray .int, 2) := by decide +kernel
theorem dX8_init_135 : decode cX8_init 135 = .ok (.putfield 55, 3) := by decide +kernel
theorem dX8_init_138 : decode cX8_init 138 = .ok (.aload_n 0, 1) := by decide +kernel
theorem dX8_init_139 : decode cX8_init 139 = .ok (.sipush 480, 3) := by decide +kernel
theorem dX8_init_142 : decode cX8_init 142 = .ok (.newarray .int, 2) := by decide +kernel
theorem dX8_init_144 : decode cX8_init 144 = .ok (.putfield 58, 3) := by decide +kernel
theorem dX8_init_147 : decode cX8_init 147 = .ok (.aload_n 0, 1) := by decide +kernel
theorem dX8_init_148 : decode cX8_init 148 = .ok (.bipush 40, 2) := by decide +kernel
theorem dX8_init_150 : decode cX8_init 150 = .ok (.newarray .int, 2) := by decide +kernel
theorem dX8_init_152 : decode cX8_init 152 = .ok (.putfield 61, 3) := by decide +kernel
theorem dX8_init_155 : decode cX8_init 155 = .ok (.aload_n 0, 1) := by decide +kernel
theorem dX8_init_156 : decode cX8_init 156 = .ok (.bipush 40, 2) := by decide +kernel
theorem dX8_init_158 : decode cX8_init 158 = .ok (.newarray .int, 2) := by decide +kernel
theorem dX8_init_160 : decode cX8_init 160 = .ok (.putfield 64, 3) := by decide +kernel
theorem dX8_init_163 : decode cX8_init 163 = .ok (.aload_n 0, 1) := by decide +kernel
theorem dX8_init_164 : decode cX8_init 164 = .ok (.sipush 480, 3) := by decide +kernel
theorem dX8_init_167 : decode cX8_init 167 = .ok (.newarray .boolean, 2) := by decide +kernel
theorem dX8_init_169 : decode cX8_init 169 = .ok (.putfield 67, 3) := by decide +kernel
theorem dX8_init_172 : decode cX8_init 172 = .ok (.aload_n 0, 1) := by decide +kernel
theorem dX8_init_173 : decode cX8_init 173 = .ok (.bipush 24, 2) := by decide +kernel
theorem dX8_init_175 : decode cX8_init 175 = .ok (.newarray .long, 2) := by decide +kernel
theorem dX8_init_177 : decode cX8_init 177 = .ok (.putfield 71, 3) := by decide +kernel
theorem dX8_init_180 : decode cX8_init 180 = .ok (.aload_n 0, 1) := by decide +kernel
theorem dX8_init_181 : decode cX8_init 181 = .ok (.bipush 24, 2) := by decide +kernel
theorem dX8_init_183 : decode cX8_init 183 = .ok (.newarray .long, 2) := by decide +kernel
theorem dX8_init_185 : decode cX8_init 185 = .ok (.putfield 75, 3) := by decide +kernel
theorem dX8_init_188 : decode cX8_init 188 = .ok (.aload_n 0, 1) := by decide +kernel
theorem dX8_init_189 : decode cX8_init 189 = .ok (.bipush 48, 2) := by decide +kernel
theorem dX8_init_191 : decode cX8_init 191 = .ok (.newarray .long, 2) := by decide +kernel
theorem dX8_init_193 : decode cX8_init 193 = .ok (.putfield 78, 3) := by decide +kernel
theorem dX8_init_196 : decode cX8_init 196 = .ok (.aload_n 0, 1) := by decide +kernel
theorem dX8_init_197 : decode cX8_init 197 = .ok (.bipush 48, 2) := by decide +kernel
theorem dX8_init_199 : decode cX8_init 199 = .ok (.newarray .long, 2) := by decide +kernel
theorem dX8_init_201 : decode cX8_init 201 = .ok (.putfield 81, 3) := by decide +kernel
theorem dX8_init_204 : decode cX8_init 204 = .ok (.aload_n 0, 1) := by decide +kernel
theorem dX8_init_205 : decode cX8_init 205 = .ok (.sipush 1920, 3) := by decide +kernel
theorem dX8_init_208 : decode cX8_init 208 = .ok (.newarray .long, 2) := by decide +kernel
theorem dX8_init_210 : decode cX8_init 210 = .ok (.putfield 84, 3) := by decide +kernel
theorem dX8_init_213 : decode cX8_init 213 = .ok (.aload_n 0, 1) := by decide +kernel
theorem dX8_init_214 : decode cX8_init 214 = .ok (.sipush 960, 3) := by decide +kernel
theorem dX8_init_217 : decode cX8_init 217 = .ok (.newarray .int, 2) := by decide +kernel
theorem dX8_init_219 : decode cX8_init 219 = .ok (.putfield 87, 3) := by decide +kernel
theorem dX8_init_222 : decode cX8_init 222 = .ok (.aload_n 0, 1) := by decide +kernel
theorem dX8_init_223 : decode cX8_init 223 = .ok (.bipush 24, 2) := by decide +kernel
theorem dX8_init_225 : decode cX8_init 225 = .ok (.newarray .int, 2) := by decide +kernel
theorem dX8_init_227 : decode cX8_init 227 = .ok (.putfield 90, 3) := by decide +kernel
theorem dX8_init_230 : decode cX8_init 230 = .ok (.aload_n 0, 1) := by decide +kernel
theorem dX8_init_231 : decode cX8_init 231 = .ok (.iconst 2, 1) := by decide +kernel
theorem dX8_init_232 : decode cX8_init 232 = .ok (.newarray .long, 2) := by decide +kernel
theorem dX8_init_234 : decode cX8_init 234 = .ok (.putfield 93, 3) := by decide +kernel
theorem dX8_init_237 : decode cX8_init 237 = .ok (.aload_n 0, 1) := by decide +kernel
theorem dX8_init_238 : decode cX8_init 238 = .ok (.iconst 3, 1) := by decide +kernel
theorem dX8_init_239 : decode cX8_init 239 = .ok (.newarray .int, 2) := by decide +kernel
theorem dX8_init_241 : decode cX8_init 241 = .ok (.putfield 96, 3) := by decide +kernel
theorem dX8_init_244 : decode cX8_init 244 = .ok (.aload_n 0, 1) := by decide +kernel
theorem dX8_init_245 : decode cX8_init 245 = .ok (.iconst 3, 1) := by decide +kernel
theorem dX8_init_246 : decode cX8_init 246 = .ok (.newarray .int, 2) := by decide +kernel
theorem dX8_init_248 : decode cX8_init 248 = .ok (.putfield 99, 3) := by decide +kernel
theorem dX8_init_251 : decode cX8_init 251 = .ok (.aload_n 0, 1) := by decide +kernel
theorem dX8_init_252 : decode cX8_init 252 = .ok (.iconst 3, 1) := by decide +kernel
theorem dX8_init_253 : decode cX8_init 253 = .ok (.newarray .int, 2) := by decide +kernel
theorem dX8_init_255 : decode cX8_init 255 = .ok (.putfield 102, 3) := by decide +kernel
theorem dX8_init_258 : decode cX8_init 258 = .ok (.aload_n 0, 1) := by decide +kernel
theorem dX8_init_259 : decode cX8_init 259 = .ok (.iconst 3, 1) := by decide +kernel
theorem dX8_init_260 : decode cX8_init 260 = .ok (.newarray .long, 2) := by decide +kernel
theorem dX8_init_262 : decode cX8_init 262 = .ok (.putfield 105, 3) := by decide +kernel
theorem dX8_init_265 : decode cX8_init 265 = .ok (.aload_n 0, 1) := by decide +kernel
theorem dX8_init_266 : decode cX8_init 266 = .ok (.sipush 600, 3) := by decide +kernel
theorem dX8_init_269 : decode cX8_init 269 = .ok (.newarray .int, 2) := by decide +kernel
theorem dX8_init_271 : decode cX8_init 271 = .ok (.putfield 108, 3) := by decide +kernel
theorem dX8_init_274 : decode cX8_init 274 = .ok (.aload_n 0, 1) := by decide +kernel
theorem dX8_init_275 : decode cX8_init 275 = .ok (.sipush 600, 3) := by decide +kernel
theorem dX8_init_278 : decode cX8_init 278 = .ok (.newarray .int, 2) := by decide +kernel
theorem dX8_init_280 : decode cX8_init 280 = .ok (.putfield 111, 3) := by decide +kernel
theorem dX8_init_283 : decode cX8_init 283 = .ok (.aload_n 0, 1) := by decide +kernel
theorem dX8_init_284 : decode cX8_init 284 = .ok (.sipush 600, 3) := by decide +kernel
theorem dX8_init_287 : decode cX8_init 287 = .ok (.newarray .int, 2) := by decide +kernel
theorem dX8_init_289 : decode cX8_init 289 = .ok (.putfield 114, 3) := by decide +kernel
theorem dX8_init_292 : decode cX8_init 292 = .ok (.aload_n 0, 1) := by decide +kernel
theorem dX8_init_293 : decode cX8_init 293 = .ok (.sipush 600, 3) := by decide +kernel
theorem dX8_init_296 : decode cX8_init 296 = .ok (.newarray .long, 2) := by decide +kernel
theorem dX8_init_298 : decode cX8_init 298 = .ok (.putfield 117, 3) := by decide +kernel
theorem dX8_init_301 : decode cX8_init 301 = .ok (.aload_n 0, 1) := by decide +kernel
theorem dX8_init_302 : decode cX8_init 302 = .ok (.sipush 600, 3) := by decide +kernel
theorem dX8_init_305 : decode cX8_init 305 = .ok (.newarray .long, 2) := by decide +kernel
theorem dX8_init_307 : decode cX8_init 307 = .ok (.putfield 120, 3) := by decide +kernel
theorem dX8_init_310 : decode cX8_init 310 = .ok (.aload_n 0, 1) := by decide +kernel
theorem dX8_init_311 : decode cX8_init 311 = .ok (.bipush 60, 2) := by decide +kernel
theorem dX8_init_313 : decode cX8_init 313 = .ok (.newarray .int, 2) := by decide +kernel
theorem dX8_init_315 : decode cX8_init 315 = .ok (.putfield 123, 3) := by decide +kernel
theorem dX8_init_318 : decode cX8_init 318 = .ok (.aload_n 0, 1) := by decide +kernel
theorem dX8_init_319 : decode cX8_init 319 = .ok (.bipush 60, 2) := by decide +kernel
theorem dX8_init_321 : decode cX8_init 321 = .ok (.newarray .int, 2) := by decide +kernel
theorem dX8_init_323 : decode cX8_init 323 = .ok (.putfield 126, 3) := by decide +kernel
theorem dX8_init_326 : decode cX8_init 326 = .ok (.aload_n 0, 1) := by decide +kernel
theorem dX8_init_327 : decode cX8_init 327 = .ok (.bipush 60, 2) := by decide +kernel
theorem dX8_init_329 : decode cX8_init 329 = .ok (.newarray .int, 2) := by decide +kernel
theorem dX8_init_331 : decode cX8_init 331 = .ok (.putfield 129, 3) := by decide +kernel
theorem dX8_init_334 : decode cX8_init 334 = .ok (.iconst 0, 1) := by decide +kernel
theorem dX8_init_335 : decode cX8_init 335 = .ok (.istore_n 1, 1) := by decide +kernel
theorem dX8_init_336 : decode cX8_init 336 = .ok (.iload_n 1, 1) := by decide +kernel
theorem dX8_init_337 : decode cX8_init 337 = .ok (.bipush 40, 2) := by decide +kernel
theorem dX8_init_339 : decode cX8_init 339 = .ok (.if_icmp .ge 17, 3) := by decide +kernel
theorem dX8_init_342 : decode cX8_init 342 = .ok (.aload_n 0, 1) := by decide +kernel
theorem dX8_init_343 : decode cX8_init 343 = .ok (.getfield 64, 3) := by decide +kernel
theorem dX8_init_346 : decode cX8_init 346 = .ok (.iload_n 1, 1) := by decide +kernel
theorem dX8_init_347 : decode cX8_init 347 = .ok (.bipush 12, 2) := by decide +kernel
theorem dX8_init_349 : decode cX8_init 349 = .ok (.iastore, 1) := by decide +kernel
theorem dX8_init_350 : decode cX8_init 350 = .ok (.iinc 1 1, 3) := by decide +kernel
theorem dX8_init_353 : decode cX8_init 353 = .ok (.goto (-17), 3) := by decide +kernel
theorem dX8_init_356 : decode cX8_init 356 = .ok (.return_, 1) := by decide +kernel
theorem dX8_isHand_0 : decode cX8_isHand 0 = .ok (.iload_n 0, 1) := by decide +kernel
theorem dX8_isHand_1 : decode cX8_isHand 1 = .ok (.ifCond .lt 13, 3) := by decide +kernel
theorem dX8_isHand_4 : decode cX8_isHand 4 = .ok (.iload_n 0, 1) := by decide +kernel
theorem dX8_isHand_5 : decode cX8_isHand 5 = .ok (.bipush 12, 2) := by decide +kernel
theorem dX8_isHand_7 : decode cX8_isHand 7 = .ok (.if_icmp .ge 7, 3) := by decide +kernel
theorem dX8_isHand_10 : decode cX8_isHand 10 = .ok (.iconst 1, 1) := by decide +kernel
theorem dX8_isHand_11 : decode cX8_isHand 11 = .ok (.goto 4, 3) := by decide +kernel
theorem dX8_isHand_14 : decode cX8_isHand 14 = .ok (.iconst 0, 1) := by decide +kernel
theorem dX8_isHand_15 : decode cX8_isHand 15 = .ok (.ireturn, 1) := by decide +kernel
theorem dX8_isWork_0 : decode cX8_isWork 0 = .ok (.iload_n 0, 1) := by decide +kernel
theorem dX8_isWork_1 : decode cX8_isWork 1 = .ok (.ifCond .lt 13, 3) := by decide +kernel
theorem dX8_isWork_4 : decode cX8_isWork 4 = .ok (.iload_n 0, 1) := by decide +kernel
theorem dX8_isWork_5 : decode cX8_isWork 5 = .ok (.bipush 12, 2) := by decide +kernel
theorem dX8_isWork_7 : decode cX8_isWork 7 = .ok (.if_icmp .ge 7, 3) := by decide +kernel
theorem dX8_isWork_10 : decode cX8_isWork 10 = .ok (.iconst 1, 1) := by decide +kernel
theorem dX8_isWork_11 : decode cX8_isWork 11 = .ok (.goto 4, 3) := by decide +kernel
theorem dX8_isWork_14 : decode cX8_isWork 14 = .ok (.iconst 0, 1) := by decide +kernel
theorem dX8_isWork_15 : decode cX8_isWork 15 = .ok (.ireturn, 1) := by decide +kernel
set_option maxRecDepth 20000 in
theorem ggX8_isPart_X8_isHand : GoodIn wsX8_isPart wsX8_isHand := goodIn_r _ [4] (by decide +kernel) (by decide +kernel)
set_option maxRecDepth 20000 in
theorem gX8_isPart_X8_isHand : GoodIn wsX8_isPart (va_wsS RX8 132 yX8_isHand wsX8_isHand) := goodIn_app (goodIn_of _ (by decide +kernel)) ggX8_isPart_X8_isHand
theorem dX8_isPart_0 : decode cX8_isPart 0 = .ok (.iload_n 0, 1) := by decide +kernel
theorem dX8_isPart_1 : decode cX8_isPart 1 = .ok (.iconst (-1), 1) := by decide +kernel
theorem dX8_isPart_2 : decode cX8_isPart 2 = .ok (.if_icmp .ne 15, 3) := by decide +kernel
theorem dX8_isPart_5 : decode cX8_isPart 5 = .ok (.iload_n 1, 1) := by decide +kernel
theorem dX8_isPart_6 : decode cX8_isPart 6 = .ok (.ifCond .ne 7, 3) := by decide +kernel
theorem dX8_isPart_9 : decode cX8_isPart 9 = .ok (.iconst 1, 1) := by decide +kernel
theorem dX8_isPart_10 : decode cX8_isPart 10 = .ok (.goto 31, 3) := by decide +kernel
theorem dX8_isPart_13 : decode cX8_isPart 13 = .ok (.iconst 0, 1) := by decide +kernel
theorem dX8_isPart_14 : decode cX8_isPart 14 = .ok (.goto 27, 3) := by decide +kernel
theorem dX8_isPart_17 : decode cX8_isPart 17 = .ok (.iload_n 0, 1) := by decide +kernel
theorem dX8_isPart_18 : decode cX8_isPart 18 = .ok (.invokestatic 132, 3) := by decide +kernel
theorem dX8_isPart_21 : decode cX8_isPart 21 = .ok (.ifCond .eq 19, 3) := by decide +kernel
theorem dX8_isPart_24 : decode cX8_isPart 24 = .ok (.iload_n 1, 1) := by decide +kernel
theorem dX8_isPart_25 : decode cX8_isPart 25 = .ok (.iconst 1, 1) := by decide +kernel
theorem dX8_isPart_26 : decode cX8_isPart 26 = .ok (.if_icmp .lt 14, 3) := by decide +kernel
theorem dX8_isPart_29 : decode cX8_isPart 29 = .ok (.iload_n 1, 1) := by decide +kernel
theorem dX8_isPart_30 : decode cX8_isPart 30 = .ok (.sipush 1000, 3) := by decide +kernel
theorem dX8_isPart_33 : decode cX8_isPart 33 = .ok (.if_icmp .gt 7, 3) := by decide +kernel
theorem dX8_isPart_36 : decode cX8_isPart 36 = .ok (.iconst 1, 1) := by decide +kernel
theorem dX8_isPart_37 : decode cX8_isPart 37 = .ok (.goto 4, 3) := by decide +kernel
theorem dX8_isPart_40 : decode cX8_isPart 40 = .ok (.iconst 0, 1) := by decide +kernel
theorem dX8_isPart_41 : decode cX8_isPart 41 = .ok (.ireturn, 1) := by decide +kernel
theorem dX8_isDay_0 : decode cX8_isDay 0 = .ok (.iload_n 1, 1) := by decide +kernel
theorem dX8_isDay_1 : decode cX8_isDay 1 = .ok (.bipush 90, 2) := by decide +kernel
theorem dX8_isDay_3 : decode cX8_isDay 3 = .ok (.aload_n 0, 1) := by decide +kernel
theorem dX8_isDay_4 : decode cX8_isDay 4 = .ok (.getfield 136, 3) := by decide +kernel
theorem dX8_isDay_7 : decode cX8_isDay 7 = .ok (.imul, 1) := by decide +kernel
theorem dX8_isDay_8 : decode cX8_isDay 8 = .ok (.if_icmp .lt 14, 3) := by decide +kernel
theorem dX8_isDay_11 : decode cX8_isDay 11 = .ok (.iload_n 1, 1) := by decide +kernel
theorem dX8_isDay_12 : decode cX8_isDay 12 = .ok (.sipush 3599, 3) := by decide +kernel
theorem dX8_isDay_15 : decode cX8_isDay 15 = .ok (.if_icmp .gt 7, 3) := by decide +kernel
theorem dX8_isDay_18 : decode cX8_isDay 18 = .ok (.iconst 1, 1) := by decide +kernel
theorem dX8_isDay_19 : decode cX8_isDay 19 = .ok (.goto 4, 3) := by decide +kernel
theorem dX8_isDay_22 : decode cX8_isDay 22 = .ok (.iconst 0, 1) := by decide +kernel
theorem dX8_isDay_23 : decode cX8_isDay 23 = .ok (.ireturn, 1) := by decide +kernel
set_option maxRecDepth 20000 in
theorem ggX8_share_X8_isWork : GoodIn wsX8_share wsX8_isWork := goodIn_r _ [8] (by decide +kernel) (by decide +kernel)
set_option maxRecDepth 20000 in
theorem gX8_share_X8_isWork : GoodIn wsX8_share (va_wsS RX8 140 yX8_isWork wsX8_isWork) := goodIn_app (goodIn_of _ (by decide +kernel)) ggX8_share_X8_isWork
set_option maxRecDepth 20000 in
theorem ggX8_share_X8_isHand : GoodIn wsX8_share wsX8_isHand := goodIn_r _ [11] (by decide +kernel) (by decide +kernel)
set_option maxRecDepth 20000 in
theorem gX8_share_X8_isHand : GoodIn wsX8_share (va_wsS RX8 132 yX8_isHand wsX8_isHand) := goodIn_app (goodIn_of _ (by decide +kernel)) ggX8_share_X8_isHand
set_option maxRecDepth 20000 in
theorem ggX8_share_X8_isPart : GoodIn wsX8_share wsX8_isPart := goodIn_r _ [14, 9, 10, 7, 11] (by decide +kernel) (by decide +kernel)
set_option maxRecDepth 20000 in
theorem gX8_share_X8_isPart : GoodIn wsX8_share (va_wsS RX8 143 yX8_isPart wsX8_isPart) := goodIn_app (goodIn_of _ (by decide +kernel)) ggX8_share_X8_isPart
set_option maxRecDepth 20000 in
theorem ggX8_share_X8_isDay : GoodIn wsX8_share wsX8_isDay := goodIn_r _ [18, 19, 20, 21, 22, 23, 24, 25, 26, 27, 28, 29, 30, 31, 32, 33, 34, 35, 36, 37, 38, 39, 40, 41, 42, 43, 44, 45, 46, 47, 48, 49, 50, 51, 52, 53, 54, 55, 56, 57, 58, 59, 60, 61, 62, 63, 64, 65, 66] (by decide +kernel) (by decide +kernel)
set_option maxRecDepth 20000 in
theorem gX8_share_X8_isDay : GoodIn wsX8_share (wsV RX8 147 RX8 yX8_isDay wsX8_isDay) := goodIn_app (goodIn_of _ (by decide +kernel)) ggX8_share_X8_isDay
theorem dX8_share_0 : decode cX8_share 0 = .ok (.iload_n 1, 1) := by decide +kernel
theorem dX8_share_1 : decode cX8_share 1 = .ok (.invokestatic 140, 3) := by decide +kernel
theorem dX8_share_4 : decode cX8_share 4 = .ok (.ifCond .eq 51, 3) := by decide +kernel
theorem dX8_share_7 : decode cX8_share 7 = .ok (.iload_n 3, 1) := by decide +kernel
theorem dX8_share_8 : decode cX8_share 8 = .ok (.invokestatic 132, 3) := by decide +kernel
theorem dX8_share_11 : decode cX8_share 11 = .ok (.ifCond .eq 44, 3) := by decide +kernel
theorem dX8_share_14 : decode cX8_share 14 = .ok (.iload_n 3, 1) := by decide +kernel
theorem dX8_share_15 : decode cX8_share 15 = .ok (.iload 4, 2) := by decide +kernel
theorem dX8_share_17 : decode cX8_share 17 = .ok (.invokestatic 143, 3) := by decide +kernel
theorem dX8_share_20 : decode cX8_share 20 = .ok (.ifCond .eq 35, 3) := by decide +kernel
theorem dX8_share_23 : decode cX8_share 23 = .ok (.iload 5, 2) := by decide +kernel
theorem dX8_share_25 : decode cX8_share 25 = .ok (.iload 6, 2) := by decide +kernel
theorem dX8_share_27 : decode cX8_share 27 = .ok (.invokestatic 143, 3) := by decide +kernel
theorem dX8_share_30 : decode cX8_share 30 = .ok (.ifCond .eq 25, 3) := by decide +kernel
theorem dX8_share_33 : decode cX8_share 33 = .ok (.iload 7, 2) := by decide +kernel
theorem dX8_share_35 : decode cX8_share 35 = .ok (.iload 8, 2) := by decide +kernel
theorem dX8_share_37 : decode cX8_share 37 = .ok (.invokestatic 143, 3) := by decide +kernel
theorem dX8_share_40 : decode cX8_share 40 = .ok (.ifCond .eq 15, 3) := by decide +kernel
theorem dX8_share_43 : decode cX8_share 43 = .ok (.iload 5, 2) := by decide +kernel
theorem dX8_share_45 : decode cX8_share 45 = .ok (.iconst (-1), 1) := by decide +kernel
theorem dX8_share_46 : decode cX8_share 46 = .ok (.if_icmp .ne 11, 3) := by decide +kernel
theorem dX8_share_49 : decode cX8_share 49 = .ok (.iload 7, 2) := by decide +kernel
theorem dX8_share_51 : decode cX8_share 51 = .ok (.iconst (-1), 1) := by decide +kernel
theorem dX8_share_52 : decode cX8_share 52 = .ok (.if_icmp .eq 5, 3) := by decide +kernel
theorem dX8_share_55 : decode cX8_share 55 = .ok (.iconst (-1), 1) := by decide +kernel
theorem dX8_share_56 : decode cX8_share 56 = .ok (.ireturn, 1) := by decide +kernel
theorem dX8_share_57 : decode cX8_share 57 = .ok (.iload_n 3, 1) := by decide +kernel
theorem dX8_share_58 : decode cX8_share 58 = .ok (.iload 5, 2) := by decide +kernel
theorem dX8_share_60 : decode cX8_share 60 = .ok (.if_icmp .eq 44, 3) := by decide +kernel
theorem dX8_share_63 : decode cX8_share 63 = .ok (.iload_n 3, 1) := by decide +kernel
theorem dX8_share_64 : decode cX8_share 64 = .ok (.iload 7, 2) := by decide +kernel
theorem dX8_share_66 : decode cX8_share 66 = .ok (.if_icmp .eq 38, 3) := by decide +kernel
theorem dX8_share_69 : decode cX8_share 69 = .ok (.iload 5, 2) := by decide +kernel
theorem dX8_share_71 : decode cX8_share 71 = .ok (.iload 7, 2) := by decide +kernel
theorem dX8_share_73 : decode cX8_share 73 = .ok (.if_icmp .ne 9, 3) := by decide +kernel
theorem dX8_share_76 : decode cX8_share 76 = .ok (.iload 5, 2) := by decide +kernel
theorem dX8_share_78 : decode cX8_share 78 = .ok (.iconst (-1), 1) := by decide +kernel
theorem dX8_share_79 : decode cX8_share 79 = .ok (.if_icmp .ne 25, 3) := by decide +kernel
theorem dX8_share_82 : decode cX8_share 82 = .ok (.iload 4, 2) := by decide +kernel
theorem dX8_share_84 : decode cX8_share 84 = .ok (.iload 6, 2) := by decide +kernel
theorem dX8_share_86 : decode cX8_share 86 = .ok (.iadd, 1) := by decide +kernel
theorem dX8_share_87 : decode cX8_share 87 = .ok (.iload 8, 2) := by decide +kernel
theorem dX8_share_89 : decode cX8_share 89 = .ok (.iadd, 1) := by decide +kernel
theorem dX8_share_90 : decode cX8_share 90 = .ok (.sipush 1000, 3) := by decide +kernel
theorem dX8_share_93 : decode cX8_share 93 = .ok (.if_icmp .ne 11, 3) := by decide +kernel
theorem dX8_share_96 : decode cX8_share 96 = .ok (.aload_n 0, 1) := by decide +kernel
theorem dX8_share_97 : decode cX8_share 97 = .ok (.iload_n 2, 1) := by decide +kernel
theorem dX8_share_98 : decode cX8_share 98 = .ok (.invokevirtual 147, 3) := by decide +kernel
theorem dX8_share_101 : decode cX8_share 101 = .ok (.ifCond .ne 5, 3) := by decide +kernel
theorem dX8_share_104 : decode cX8_share 104 = .ok (.iconst (-1), 1) := by decide +kernel
theorem dX8_share_105 : decode cX8_share 105 = .ok (.ireturn, 1) := by decide +kernel
theorem dX8_share_106 : decode cX8_share 106 = .ok (.aload_n 0, 1) := by decide +kernel
theorem dX8_share_107 : decode cX8_share 107 = .ok (.getfield 7, 3) := by decide +kernel
theorem dX8_share_110 : decode cX8_share 110 = .ok (.iload_n 1, 1) := by decide +kernel
theorem dX8_share_111 : decode cX8_share 111 = .ok (.iaload, 1) := by decide +kernel
theorem dX8_share_112 : decode cX8_share 112 = .ok (.istore 9, 2) := by decide +kernel
theorem dX8_share_114 : decode cX8_share 114 = .ok (.iload 9, 2) := by decide +kernel
theorem dX8_share_116 : decode cX8_share 116 = .ok (.bipush 6, 2) := by decide +kernel
theorem dX8_share_118 : decode cX8_share 118 = .ok (.if_icmp .eq 26, 3) := by decide +kernel
theorem dX8_share_121 : decode cX8_share 121 = .ok (.iload 9, 2) := by decide +kernel
theorem dX8_share_123 : decode cX8_share 123 = .ok (.ifCond .le 23, 3) := by decide +kernel
theorem dX8_share_126 : decode cX8_share 126 = .ok (.iload_n 2, 1) := by decide +kernel
theorem dX8_share_127 : decode cX8_share 127 = .ok (.aload_n 0, 1) := by decide +kernel
theorem dX8_share_128 : decode cX8_share 128 = .ok (.getfield 13, 3) := by decide +kernel
theorem dX8_share_131 : decode cX8_share 131 = .ok (.bipush 6, 2) := by decide +kernel
theorem dX8_share_133 : decode cX8_share 133 = .ok (.iload_n 1, 1) := by decide +kernel
theorem dX8_share_134 : decode cX8_share 134 = .ok (.imul, 1) := by decide +kernel
theorem dX8_share_135 : decode cX8_share 135 = .ok (.iload 9, 2) := by decide +kernel
theorem dX8_share_137 : decode cX8_share 137 = .ok (.iadd, 1) := by decide +kernel
theorem dX8_share_138 : decode cX8_share 138 = .ok (.iconst 1, 1) := by decide +kernel
theorem dX8_share_139 : decode cX8_share 139 = .ok (.isub, 1) := by decide +kernel
theorem dX8_share_140 : decode cX8_share 140 = .ok (.iaload, 1) := by decide +kernel
theorem dX8_share_141 : decode cX8_share 141 = .ok (.if_icmp .gt 5, 3) := by decide +kernel
theorem dX8_share_144 : decode cX8_share 144 = .ok (.iconst (-1), 1) := by decide +kernel
theorem dX8_share_145 : decode cX8_share 145 = .ok (.ireturn, 1) := by decide +kernel
theorem dX8_share_146 : decode cX8_share 146 = .ok (.bipush 6, 2) := by decide +kernel
theorem dX8_share_148 : decode cX8_share 148 = .ok (.iload_n 1, 1) := by decide +kernel
theorem dX8_share_149 : decode cX8_share 149 = .ok (.imul, 1) := by decide +kernel
theorem dX8_share_150 : decode cX8_share 150 = .ok (.iload 9, 2) := by decide +kernel
theorem dX8_share_152 : decode cX8_share 152 = .ok (.iadd, 1) := by decide +kernel
theorem dX8_share_153 : decode cX8_share 153 = .ok (.istore 10, 2) := by decide +kernel
theorem dX8_share_155 : decode cX8_share 155 = .ok (.aload_n 0, 1) := by decide +kernel
theorem dX8_share_156 : decode cX8_share 156 = .ok (.getfield 13, 3) := by decide +kernel
theorem dX8_share_159 : decode cX8_share 159 = .ok (.iload 10, 2) := by decide +kernel
theorem dX8_share_161 : decode cX8_share 161 = .ok (.iload_n 2, 1) := by decide +kernel
theorem dX8_share_162 : decode cX8_share 162 = .ok (.iastore, 1) := by decide +kernel
theorem dX8_share_163 : decode cX8_share 163 = .ok (.aload_n 0, 1) := by decide +kernel
theorem dX8_share_164 : decode cX8_share 164 = .ok (.getfield 16, 3) := by decide +kernel
theorem dX8_share_167 : decode cX8_share 167 = .ok (.iconst 3, 1) := by decide +kernel
theorem dX8_share_168 : decode cX8_share 168 = .ok (.iload 10, 2) := by decide +kernel
theorem dX8_share_170 : decode cX8_share 170 = .ok (.imul, 1) := by decide +kernel
theorem dX8_share_171 : decode cX8_share 171 = .ok (.iload_n 3, 1) := by decide +kernel
theorem dX8_share_172 : decode cX8_share 172 = .ok (.iastore, 1) := by decide +kernel
theorem dX8_share_173 : decode cX8_share 173 = .ok (.aload_n 0, 1) := by decide +kernel
theorem dX8_share_174 : decode cX8_share 174 = .ok (.getfield 16, 3) := by decide +kernel
theorem dX8_share_177 : decode cX8_share 177 = .ok (.iconst 3, 1) := by decide +kernel
theorem dX8_share_178 : decode cX8_share 178 = .ok (.iload 10, 2) := by decide +kernel
theorem dX8_share_180 : decode cX8_share 180 = .ok (.imul, 1) := by decide +kernel
theorem dX8_share_181 : decode cX8_share 181 = .ok (.iconst 1, 1) := by decide +kernel
theorem dX8_share_182 : decode cX8_share 182 = .ok (.iadd, 1) := by decide +kernel
theorem dX8_share_183 : decode cX8_share 183 = .ok (.iload 5, 2) := by decide +kernel
theorem dX8_share_185 : decode cX8_share 185 = .ok (.iastore, 1) := by decide +kernel
theorem dX8_share_186 : decode cX8_share 186 = .ok (.aload_n 0, 1) := by decide +kernel
theorem dX8_share_187 : decode cX8_share 187 = .ok (.getfield 16, 3) := by decide +kernel
theorem dX8_share_190 : decode cX8_share 190 = .ok (.iconst 3, 1) := by decide +kernel
theorem dX8_share_191 : decode cX8_share 191 = .ok (.iload 10, 2) := by decide +kernel
theorem dX8_share_193 : decode cX8_share 193 = .ok (.imul, 1) := by decide +kernel
theorem dX8_share_194 : decode cX8_share 194 = .ok (.iconst 2, 1) := by decide +kernel
theorem dX8_share_195 : decode cX8_share 195 = .ok (.iadd, 1) := by decide +kernel
theorem dX8_share_196 : decode cX8_share 196 = .ok (.iload 7, 2) := by decide +kernel
theorem dX8_share_198 : decode cX8_share 198 = .ok (.iastore, 1) := by decide +kernel
theorem dX8_share_199 : decode cX8_share 199 = .ok (.aload_n 0, 1) := by decide +kernel
theorem dX8_share_200 : decode cX8_share 200 = .ok (.getfield 19, 3) := by decide +kernel
theorem dX8_share_203 : decode cX8_share 203 = .ok (.iconst 3, 1) := by decide +kernel
theorem dX8_share_204 : decode cX8_share 204 = .ok (.iload 10, 2) := by decide +kernel
theorem dX8_share_206 : decode cX8_share 206 = .ok (.imul, 1) := by decide +kernel
theorem dX8_share_207 : decode cX8_share 207 = .ok (.iload 4, 2) := by decide +kernel
theorem dX8_share_209 : decode cX8_share 209 = .ok (.iastore, 1) := by decide +kernel
theorem dX8_share_210 : decode cX8_share 210 = .ok (.aload_n 0, 1) := by decide +kernel
theorem dX8_share_211 : decode cX8_share 211 = .ok (.getfield 19, 3) := by decide +kernel
theorem dX8_share_214 : decode cX8_share 214 = .ok (.iconst 3, 1) := by decide +kernel
theorem dX8_share_215 : decode cX8_share 215 = .ok (.iload 10, 2) := by decide +kernel
theorem dX8_share_217 : decode cX8_share 217 = .ok (.imul, 1) := by decide +kernel
theorem dX8_share_218 : decode cX8_share 218 = .ok (.iconst 1, 1) := by decide +kernel
theorem dX8_share_219 : decode cX8_share 219 = .ok (.iadd, 1) := by decide +kernel
theorem dX8_share_220 : decode cX8_share 220 = .ok (.iload 6, 2) := by decide +kernel
theorem dX8_share_222 : decode cX8_share 222 = .ok (.iastore, 1) := by decide +kernel
theorem dX8_share_223 : decode cX8_share 223 = .ok (.aload_n 0, 1) := by decide +kernel
theorem dX8_share_224 : decode cX8_share 224 = .ok (.getfield 19, 3) := by decide +kernel
theorem dX8_share_227 : decode cX8_share 227 = .ok (.iconst 3, 1) := by decide +kernel
theorem dX8_share_228 : decode cX8_share 228 = .ok (.iload 10, 2) := by decide +kernel
theorem dX8_share_230 : decode cX8_share 230 = .ok (.imul, 1) := by decide +kernel
theorem dX8_share_231 : decode cX8_share 231 = .ok (.iconst 2, 1) := by decide +kernel
theorem dX8_share_232 : decode cX8_share 232 = .ok (.iadd, 1) := by decide +kernel
theorem dX8_share_233 : decode cX8_share 233 = .ok (.iload 8, 2) := by decide +kernel
theorem dX8_share_235 : decode cX8_share 235 = .ok (.iastore, 1) := by decide +kernel
theorem dX8_share_236 : decode cX8_share 236 = .ok (.aload_n 0, 1) := by decide +kernel
theorem dX8_share_237 : decode cX8_share 237 = .ok (.getfield 7, 3) := by decide +kernel
theorem dX8_share_240 : decode cX8_share 240 = .ok (.iload_n 1, 1) := by decide +kernel
theorem dX8_share_241 : decode cX8_share 241 = .ok (.iload 9, 2) := by decide +kernel
end
section
theorem dX8_share_243 : decode cX8_share 243 = .ok (.iconst 1, 1) := by decide +kernel
theorem dX8_share_244 : decode cX8_share 244 = .ok (.iadd, 1) := by decide +kernel
theorem dX8_share_245 : decode cX8_share 245 = .ok (.iastore, 1) := by decide +kernel
theorem dX8_share_246 : decode cX8_share 246 = .ok (.iload 9, 2) := by decide +kernel
theorem dX8_share_248 : decode cX8_share 248 = .ok (.iconst 1, 1) := by decide +kernel
theorem dX8_share_249 : decode cX8_share 249 = .ok (.iadd, 1) := by decide +kernel
theorem dX8_share_250 : decode cX8_share 250 = .ok (.ireturn, 1) := by decide +kernel
theorem dX8_setOn_0 : decode cX8_setOn 0 = .ok (.bipush 6, 2) := by decide +kernel
theorem dX8_setOn_2 : decode cX8_setOn 2 = .ok (.iload_n 1, 1) := by decide +kernel
theorem dX8_setOn_3 : decode cX8_setOn 3 = .ok (.imul, 1) := by decide +kernel
theorem dX8_setOn_4 : decode cX8_setOn 4 = .ok (.istore_n 3, 1) := by decide +kernel
theorem dX8_setOn_5 : decode cX8_setOn 5 = .ok (.iconst 0, 1) := by decide +kernel
theorem dX8_setOn_6 : decode cX8_setOn 6 = .ok (.istore 4, 2) := by decide +kernel
theorem dX8_setOn_8 : decode cX8_setOn 8 = .ok (.iload 4, 2) := by decide +kernel
theorem dX8_setOn_10 : decode cX8_setOn 10 = .ok (.aload_n 0, 1) := by decide +kernel
theorem dX8_setOn_11 : decode cX8_setOn 11 = .ok (.getfield 7, 3) := by decide +kernel
theorem dX8_setOn_14 : decode cX8_setOn 14 = .ok (.iload_n 1, 1) := by decide +kernel
theorem dX8_setOn_15 : decode cX8_setOn 15 = .ok (.iaload, 1) := by decide +kernel
theorem dX8_setOn_16 : decode cX8_setOn 16 = .ok (.if_icmp .ge 33, 3) := by decide +kernel
theorem dX8_setOn_19 : decode cX8_setOn 19 = .ok (.aload_n 0, 1) := by decide +kernel
theorem dX8_setOn_20 : decode cX8_setOn 20 = .ok (.getfield 13, 3) := by decide +kernel
theorem dX8_setOn_23 : decode cX8_setOn 23 = .ok (.bipush 6, 2) := by decide +kernel
theorem dX8_setOn_25 : decode cX8_setOn 25 = .ok (.iload_n 1, 1) := by decide +kernel
theorem dX8_setOn_26 : decode cX8_setOn 26 = .ok (.imul, 1) := by decide +kernel
theorem dX8_setOn_27 : decode cX8_setOn 27 = .ok (.iload 4, 2) := by decide +kernel
theorem dX8_setOn_29 : decode cX8_setOn 29 = .ok (.iadd, 1) := by decide +kernel
theorem dX8_setOn_30 : decode cX8_setOn 30 = .ok (.iaload, 1) := by decide +kernel
theorem dX8_setOn_31 : decode cX8_setOn 31 = .ok (.iload_n 2, 1) := by decide +kernel
theorem dX8_setOn_32 : decode cX8_setOn 32 = .ok (.if_icmp .gt 11, 3) := by decide +kernel
theorem dX8_setOn_35 : decode cX8_setOn 35 = .ok (.bipush 6, 2) := by decide +kernel
theorem dX8_setOn_37 : decode cX8_setOn 37 = .ok (.iload_n 1, 1) := by decide +kernel
theorem dX8_setOn_38 : decode cX8_setOn 38 = .ok (.imul, 1) := by decide +kernel
theorem dX8_setOn_39 : decode cX8_setOn 39 = .ok (.iload 4, 2) := by decide +kernel
theorem dX8_setOn_41 : decode cX8_setOn 41 = .ok (.iadd, 1) := by decide +kernel
theorem dX8_setOn_42 : decode cX8_setOn 42 = .ok (.istore_n 3, 1) := by decide +kernel
theorem dX8_setOn_43 : decode cX8_setOn 43 = .ok (.iinc 4 1, 3) := by decide +kernel
theorem dX8_setOn_46 : decode cX8_setOn 46 = .ok (.goto (-38), 3) := by decide +kernel
theorem dX8_setOn_49 : decode cX8_setOn 49 = .ok (.iload_n 3, 1) := by decide +kernel
theorem dX8_setOn_50 : decode cX8_setOn 50 = .ok (.ireturn, 1) := by decide +kernel
theorem dX8_isSum_0 : decode cX8_isSum 0 = .ok (.iload_n 0, 1) := by decide +kernel
theorem dX8_isSum_1 : decode cX8_isSum 1 = .ok (.iconst 1, 1) := by decide +kernel
theorem dX8_isSum_2 : decode cX8_isSum 2 = .ok (.if_icmp .lt 13, 3) := by decide +kernel
theorem dX8_isSum_5 : decode cX8_isSum 5 = .ok (.iload_n 0, 1) := by decide +kernel
theorem dX8_isSum_6 : decode cX8_isSum 6 = .ok (.ldc 150, 2) := by decide +kernel
theorem dX8_isSum_8 : decode cX8_isSum 8 = .ok (.if_icmp .gt 7, 3) := by decide +kernel
theorem dX8_isSum_11 : decode cX8_isSum 11 = .ok (.iconst 1, 1) := by decide +kernel
theorem dX8_isSum_12 : decode cX8_isSum 12 = .ok (.goto 4, 3) := by decide +kernel
theorem dX8_isSum_15 : decode cX8_isSum 15 = .ok (.iconst 0, 1) := by decide +kernel
theorem dX8_isSum_16 : decode cX8_isSum 16 = .ok (.ireturn, 1) := by decide +kernel
theorem dX8_isThousandth_0 : decode cX8_isThousandth 0 = .ok (.iload_n 0, 1) := by decide +kernel
theorem dX8_isThousandth_1 : decode cX8_isThousandth 1 = .ok (.iconst 1, 1) := by decide +kernel
theorem dX8_isThousandth_2 : decode cX8_isThousandth 2 = .ok (.if_icmp .lt 14, 3) := by decide +kernel
theorem dX8_isThousandth_5 : decode cX8_isThousandth 5 = .ok (.iload_n 0, 1) := by decide +kernel
theorem dX8_isThousandth_6 : decode cX8_isThousandth 6 = .ok (.sipush 1000, 3) := by decide +kernel
theorem dX8_isThousandth_9 : decode cX8_isThousandth 9 = .ok (.if_icmp .gt 7, 3) := by decide +kernel
theorem dX8_isThousandth_12 : decode cX8_isThousandth 12 = .ok (.iconst 1, 1) := by decide +kernel
theorem dX8_isThousandth_13 : decode cX8_isThousandth 13 = .ok (.goto 4, 3) := by decide +kernel
theorem dX8_isThousandth_16 : decode cX8_isThousandth 16 = .ok (.iconst 0, 1) := by decide +kernel
theorem dX8_isThousandth_17 : decode cX8_isThousandth 17 = .ok (.ireturn, 1) := by decide +kernel
set_option maxRecDepth 20000 in
theorem ggX8_areGood_X8_isHand : GoodIn wsX8_areGood wsX8_isHand := goodIn_r _ [4] (by decide +kernel) (by decide +kernel)
set_option maxRecDepth 20000 in
theorem gX8_areGood_X8_isHand : GoodIn wsX8_areGood (va_wsS RX8 132 yX8_isHand wsX8_isHand) := goodIn_app (goodIn_of _ (by decide +kernel)) ggX8_areGood_X8_isHand
set_option maxRecDepth 20000 in
theorem ggX8_areGood_X8_isThousandth : GoodIn wsX8_areGood wsX8_isThousandth := goodIn_r _ [7] (by decide +kernel) (by decide +kernel)
set_option maxRecDepth 20000 in
theorem gX8_areGood_X8_isThousandth : GoodIn wsX8_areGood (va_wsS RX8 151 yX8_isThousandth wsX8_isThousandth) := goodIn_app (goodIn_of _ (by decide +kernel)) ggX8_areGood_X8_isThousandth
set_option maxRecDepth 20000 in
theorem ggX8_areGood_X8_isSum : GoodIn wsX8_areGood wsX8_isSum := goodIn_r _ [10, 11] (by decide +kernel) (by decide +kernel)
set_option maxRecDepth 20000 in
theorem gX8_areGood_X8_isSum : GoodIn wsX8_areGood (va_wsS RX8 154 yX8_isSum wsX8_isSum) := goodIn_app (goodIn_of _ (by decide +kernel)) ggX8_areGood_X8_isSum
theorem dX8_areGood_0 : decode cX8_areGood 0 = .ok (.iload 5, 2) := by decide +kernel
theorem dX8_areGood_2 : decode cX8_areGood 2 = .ok (.invokestatic 132, 3) := by decide +kernel
theorem dX8_areGood_5 : decode cX8_areGood 5 = .ok (.ifCond .eq 13, 3) := by decide +kernel
theorem dX8_areGood_8 : decode cX8_areGood 8 = .ok (.iload 5, 2) := by decide +kernel
theorem dX8_areGood_10 : decode cX8_areGood 10 = .ok (.iload_n 1, 1) := by decide +kernel
theorem dX8_areGood_11 : decode cX8_areGood 11 = .ok (.if_icmp .eq 7, 3) := by decide +kernel
theorem dX8_areGood_14 : decode cX8_areGood 14 = .ok (.iconst 1, 1) := by decide +kernel
theorem dX8_areGood_15 : decode cX8_areGood 15 = .ok (.goto 4, 3) := by decide +kernel
theorem dX8_areGood_18 : decode cX8_areGood 18 = .ok (.iconst 0, 1) := by decide +kernel
theorem dX8_areGood_19 : decode cX8_areGood 19 = .ok (.istore 6, 2) := by decide +kernel
theorem dX8_areGood_21 : decode cX8_areGood 21 = .ok (.iload_n 0, 1) := by decide +kernel
theorem dX8_areGood_22 : decode cX8_areGood 22 = .ok (.tableswitch 119 0 4 #[34, 52, 52, 57, 95], 34) := by decide +kernel
theorem dX8_areGood_56 : decode cX8_areGood 56 = .ok (.iload_n 2, 1) := by decide +kernel
theorem dX8_areGood_57 : decode cX8_areGood 57 = .ok (.invokestatic 151, 3) := by decide +kernel
theorem dX8_areGood_60 : decode cX8_areGood 60 = .ok (.ifCond .eq 12, 3) := by decide +kernel
theorem dX8_areGood_63 : decode cX8_areGood 63 = .ok (.iload 6, 2) := by decide +kernel
theorem dX8_areGood_65 : decode cX8_areGood 65 = .ok (.ifCond .eq 7, 3) := by decide +kernel
theorem dX8_areGood_68 : decode cX8_areGood 68 = .ok (.iconst 1, 1) := by decide +kernel
theorem dX8_areGood_69 : decode cX8_areGood 69 = .ok (.goto 4, 3) := by decide +kernel
theorem dX8_areGood_72 : decode cX8_areGood 72 = .ok (.iconst 0, 1) := by decide +kernel
theorem dX8_areGood_73 : decode cX8_areGood 73 = .ok (.ireturn, 1) := by decide +kernel
theorem dX8_areGood_74 : decode cX8_areGood 74 = .ok (.iload_n 2, 1) := by decide +kernel
theorem dX8_areGood_75 : decode cX8_areGood 75 = .ok (.invokestatic 154, 3) := by decide +kernel
theorem dX8_areGood_78 : decode cX8_areGood 78 = .ok (.ireturn, 1) := by decide +kernel
theorem dX8_areGood_79 : decode cX8_areGood 79 = .ok (.iload_n 2, 1) := by decide +kernel
theorem dX8_areGood_80 : decode cX8_areGood 80 = .ok (.invokestatic 151, 3) := by decide +kernel
theorem dX8_areGood_83 : decode cX8_areGood 83 = .ok (.ifCond .eq 32, 3) := by decide +kernel
theorem dX8_areGood_86 : decode cX8_areGood 86 = .ok (.iload_n 3, 1) := by decide +kernel
theorem dX8_areGood_87 : decode cX8_areGood 87 = .ok (.invokestatic 154, 3) := by decide +kernel
theorem dX8_areGood_90 : decode cX8_areGood 90 = .ok (.ifCond .eq 25, 3) := by decide +kernel
theorem dX8_areGood_93 : decode cX8_areGood 93 = .ok (.iload 4, 2) := by decide +kernel
theorem dX8_areGood_95 : decode cX8_areGood 95 = .ok (.ifCond .lt 20, 3) := by decide +kernel
theorem dX8_areGood_98 : decode cX8_areGood 98 = .ok (.iload 4, 2) := by decide +kernel
theorem dX8_areGood_100 : decode cX8_areGood 100 = .ok (.sipush 1000, 3) := by decide +kernel
theorem dX8_areGood_103 : decode cX8_areGood 103 = .ok (.if_icmp .gt 12, 3) := by decide +kernel
theorem dX8_areGood_106 : decode cX8_areGood 106 = .ok (.iload 6, 2) := by decide +kernel
theorem dX8_areGood_108 : decode cX8_areGood 108 = .ok (.ifCond .eq 7, 3) := by decide +kernel
theorem dX8_areGood_111 : decode cX8_areGood 111 = .ok (.iconst 1, 1) := by decide +kernel
theorem dX8_areGood_112 : decode cX8_areGood 112 = .ok (.goto 4, 3) := by decide +kernel
theorem dX8_areGood_115 : decode cX8_areGood 115 = .ok (.iconst 0, 1) := by decide +kernel
theorem dX8_areGood_116 : decode cX8_areGood 116 = .ok (.ireturn, 1) := by decide +kernel
theorem dX8_areGood_117 : decode cX8_areGood 117 = .ok (.iload_n 2, 1) := by decide +kernel
theorem dX8_areGood_118 : decode cX8_areGood 118 = .ok (.invokestatic 151, 3) := by decide +kernel
theorem dX8_areGood_121 : decode cX8_areGood 121 = .ok (.ifCond .eq 18, 3) := by decide +kernel
theorem dX8_areGood_124 : decode cX8_areGood 124 = .ok (.iload_n 3, 1) := by decide +kernel
theorem dX8_areGood_125 : decode cX8_areGood 125 = .ok (.iconst 1, 1) := by decide +kernel
theorem dX8_areGood_126 : decode cX8_areGood 126 = .ok (.if_icmp .lt 13, 3) := by decide +kernel
theorem dX8_areGood_129 : decode cX8_areGood 129 = .ok (.iload_n 3, 1) := by decide +kernel
theorem dX8_areGood_130 : decode cX8_areGood 130 = .ok (.bipush 8, 2) := by decide +kernel
theorem dX8_areGood_132 : decode cX8_areGood 132 = .ok (.if_icmp .gt 7, 3) := by decide +kernel
theorem dX8_areGood_135 : decode cX8_areGood 135 = .ok (.iconst 1, 1) := by decide +kernel
theorem dX8_areGood_136 : decode cX8_areGood 136 = .ok (.goto 4, 3) := by decide +kernel
theorem dX8_areGood_139 : decode cX8_areGood 139 = .ok (.iconst 0, 1) := by decide +kernel
theorem dX8_areGood_140 : decode cX8_areGood 140 = .ok (.ireturn, 1) := by decide +kernel
theorem dX8_areGood_141 : decode cX8_areGood 141 = .ok (.iconst 0, 1) := by decide +kernel
theorem dX8_areGood_142 : decode cX8_areGood 142 = .ok (.ireturn, 1) := by decide +kernel
set_option maxRecDepth 20000 in
theorem ggX8_bargain_X8_isHand : GoodIn wsX8_bargain wsX8_isHand := goodIn_r _ [13] (by decide +kernel) (by decide +kernel)
set_option maxRecDepth 20000 in
theorem gX8_bargain_X8_isHand : GoodIn wsX8_bargain (va_wsS RX8 132 yX8_isHand wsX8_isHand) := goodIn_app (goodIn_of _ (by decide +kernel)) ggX8_bargain_X8_isHand
set_option maxRecDepth 20000 in
theorem ggX8_bargain_X8_isDay : GoodIn wsX8_bargain wsX8_isDay := goodIn_r _ [17, 18, 29, 30, 31, 32, 33, 34, 35, 36, 37, 38, 39, 40, 41, 42, 43, 44, 45, 46, 47, 48, 49, 50, 51, 52, 53, 54, 55, 56, 57, 58, 59, 60, 61, 62, 63, 64, 65, 66, 67, 68, 69, 70, 71, 72, 73, 74, 75] (by decide +kernel) (by decide +kernel)
set_option maxRecDepth 20000 in
theorem gX8_bargain_X8_isDay : GoodIn wsX8_bargain (wsV RX8 147 RX8 yX8_isDay wsX8_isDay) := goodIn_app (goodIn_of _ (by decide +kernel)) ggX8_bargain_X8_isDay
set_option maxRecDepth 20000 in
theorem ggX8_bargain_X8_areGood : GoodIn wsX8_bargain wsX8_areGood := goodIn_r _ [21, 10, 11, 12, 13, 22, 23, 24, 25, 26, 27, 28] (by decide +kernel) (by decide +kernel)
set_option maxRecDepth 20000 in
theorem gX8_bargain_X8_areGood : GoodIn wsX8_bargain (va_wsS RX8 160 yX8_areGood wsX8_areGood) := goodIn_app (goodIn_of _ (by decide +kernel)) ggX8_bargain_X8_areGood
theorem dX8_bargain_0 : decode cX8_bargain 0 = .ok (.iload_n 2, 1) := by decide +kernel
theorem dX8_bargain_1 : decode cX8_bargain 1 = .ok (.invokestatic 132, 3) := by decide +kernel
theorem dX8_bargain_4 : decode cX8_bargain 4 = .ok (.ifCond .eq 49, 3) := by decide +kernel
theorem dX8_bargain_7 : decode cX8_bargain 7 = .ok (.iload_n 3, 1) := by decide +kernel
theorem dX8_bargain_8 : decode cX8_bargain 8 = .ok (.iconst 1, 1) := by decide +kernel
theorem dX8_bargain_9 : decode cX8_bargain 9 = .ok (.if_icmp .lt 44, 3) := by decide +kernel
theorem dX8_bargain_12 : decode cX8_bargain 12 = .ok (.iload_n 3, 1) := by decide +kernel
theorem dX8_bargain_13 : decode cX8_bargain 13 = .ok (.sipush 4095, 3) := by decide +kernel
theorem dX8_bargain_16 : decode cX8_bargain 16 = .ok (.if_icmp .gt 37, 3) := by decide +kernel
theorem dX8_bargain_19 : decode cX8_bargain 19 = .ok (.aload_n 0, 1) := by decide +kernel
theorem dX8_bargain_20 : decode cX8_bargain 20 = .ok (.iload 4, 2) := by decide +kernel
theorem dX8_bargain_22 : decode cX8_bargain 22 = .ok (.invokevirtual 147, 3) := by decide +kernel
theorem dX8_bargain_25 : decode cX8_bargain 25 = .ok (.ifCond .eq 28, 3) := by decide +kernel
theorem dX8_bargain_28 : decode cX8_bargain 28 = .ok (.aload_n 0, 1) := by decide +kernel
theorem dX8_bargain_29 : decode cX8_bargain 29 = .ok (.getfield 157, 3) := by decide +kernel
theorem dX8_bargain_32 : decode cX8_bargain 32 = .ok (.bipush 24, 2) := by decide +kernel
theorem dX8_bargain_34 : decode cX8_bargain 34 = .ok (.if_icmp .eq 19, 3) := by decide +kernel
theorem dX8_bargain_37 : decode cX8_bargain 37 = .ok (.iload_n 1, 1) := by decide +kernel
theorem dX8_bargain_38 : decode cX8_bargain 38 = .ok (.iload_n 2, 1) := by decide +kernel
theorem dX8_bargain_39 : decode cX8_bargain 39 = .ok (.iload 5, 2) := by decide +kernel
theorem dX8_bargain_41 : decode cX8_bargain 41 = .ok (.iload 6, 2) := by decide +kernel
theorem dX8_bargain_43 : decode cX8_bargain 43 = .ok (.iload 7, 2) := by decide +kernel
theorem dX8_bargain_45 : decode cX8_bargain 45 = .ok (.iload 8, 2) := by decide +kernel
theorem dX8_bargain_47 : decode cX8_bargain 47 = .ok (.invokestatic 160, 3) := by decide +kernel
theorem dX8_bargain_50 : decode cX8_bargain 50 = .ok (.ifCond .ne 5, 3) := by decide +kernel
theorem dX8_bargain_53 : decode cX8_bargain 53 = .ok (.iconst (-1), 1) := by decide +kernel
theorem dX8_bargain_54 : decode cX8_bargain 54 = .ok (.ireturn, 1) := by decide +kernel
theorem dX8_bargain_55 : decode cX8_bargain 55 = .ok (.aload_n 0, 1) := by decide +kernel
theorem dX8_bargain_56 : decode cX8_bargain 56 = .ok (.getfield 157, 3) := by decide +kernel
theorem dX8_bargain_59 : decode cX8_bargain 59 = .ok (.istore 9, 2) := by decide +kernel
theorem dX8_bargain_61 : decode cX8_bargain 61 = .ok (.aload_n 0, 1) := by decide +kernel
theorem dX8_bargain_62 : decode cX8_bargain 62 = .ok (.getfield 22, 3) := by decide +kernel
theorem dX8_bargain_65 : decode cX8_bargain 65 = .ok (.iload 9, 2) := by decide +kernel
theorem dX8_bargain_67 : decode cX8_bargain 67 = .ok (.iload_n 1, 1) := by decide +kernel
theorem dX8_bargain_68 : decode cX8_bargain 68 = .ok (.iastore, 1) := by decide +kernel
theorem dX8_bargain_69 : decode cX8_bargain 69 = .ok (.aload_n 0, 1) := by decide +kernel
theorem dX8_bargain_70 : decode cX8_bargain 70 = .ok (.getfield 25, 3) := by decide +kernel
theorem dX8_bargain_73 : decode cX8_bargain 73 = .ok (.iload 9, 2) := by decide +kernel
theorem dX8_bargain_75 : decode cX8_bargain 75 = .ok (.iload_n 2, 1) := by decide +kernel
theorem dX8_bargain_76 : decode cX8_bargain 76 = .ok (.iastore, 1) := by decide +kernel
theorem dX8_bargain_77 : decode cX8_bargain 77 = .ok (.aload_n 0, 1) := by decide +kernel
theorem dX8_bargain_78 : decode cX8_bargain 78 = .ok (.getfield 28, 3) := by decide +kernel
theorem dX8_bargain_81 : decode cX8_bargain 81 = .ok (.iload 9, 2) := by decide +kernel
theorem dX8_bargain_83 : decode cX8_bargain 83 = .ok (.iload_n 3, 1) := by decide +kernel
theorem dX8_bargain_84 : decode cX8_bargain 84 = .ok (.iastore, 1) := by decide +kernel
theorem dX8_bargain_85 : decode cX8_bargain 85 = .ok (.aload_n 0, 1) := by decide +kernel
theorem dX8_bargain_86 : decode cX8_bargain 86 = .ok (.getfield 31, 3) := by decide +kernel
theorem dX8_bargain_89 : decode cX8_bargain 89 = .ok (.iload 9, 2) := by decide +kernel
theorem dX8_bargain_91 : decode cX8_bargain 91 = .ok (.iload 4, 2) := by decide +kernel
theorem dX8_bargain_93 : decode cX8_bargain 93 = .ok (.iastore, 1) := by decide +kernel
theorem dX8_bargain_94 : decode cX8_bargain 94 = .ok (.aload_n 0, 1) := by decide +kernel
theorem dX8_bargain_95 : decode cX8_bargain 95 = .ok (.getfield 34, 3) := by decide +kernel
theorem dX8_bargain_98 : decode cX8_bargain 98 = .ok (.iload 9, 2) := by decide +kernel
theorem dX8_bargain_100 : decode cX8_bargain 100 = .ok (.iload 5, 2) := by decide +kernel
theorem dX8_bargain_102 : decode cX8_bargain 102 = .ok (.iastore, 1) := by decide +kernel
theorem dX8_bargain_103 : decode cX8_bargain 103 = .ok (.aload_n 0, 1) := by decide +kernel
theorem dX8_bargain_104 : decode cX8_bargain 104 = .ok (.getfield 37, 3) := by decide +kernel
theorem dX8_bargain_107 : decode cX8_bargain 107 = .ok (.iload 9, 2) := by decide +kernel
theorem dX8_bargain_109 : decode cX8_bargain 109 = .ok (.iload 6, 2) := by decide +kernel
theorem dX8_bargain_111 : decode cX8_bargain 111 = .ok (.iastore, 1) := by decide +kernel
theorem dX8_bargain_112 : decode cX8_bargain 112 = .ok (.aload_n 0, 1) := by decide +kernel
theorem dX8_bargain_113 : decode cX8_bargain 113 = .ok (.getfield 40, 3) := by decide +kernel
theorem dX8_bargain_116 : decode cX8_bargain 116 = .ok (.iload 9, 2) := by decide +kernel
theorem dX8_bargain_118 : decode cX8_bargain 118 = .ok (.iload 7, 2) := by decide +kernel
theorem dX8_bargain_120 : decode cX8_bargain 120 = .ok (.iastore, 1) := by decide +kernel
theorem dX8_bargain_121 : decode cX8_bargain 121 = .ok (.aload_n 0, 1) := by decide +kernel
theorem dX8_bargain_122 : decode cX8_bargain 122 = .ok (.getfield 43, 3) := by decide +kernel
theorem dX8_bargain_125 : decode cX8_bargain 125 = .ok (.iload 9, 2) := by decide +kernel
theorem dX8_bargain_127 : decode cX8_bargain 127 = .ok (.iload 8, 2) := by decide +kernel
theorem dX8_bargain_129 : decode cX8_bargain 129 = .ok (.iastore, 1) := by decide +kernel
theorem dX8_bargain_130 : decode cX8_bargain 130 = .ok (.aload_n 0, 1) := by decide +kernel
theorem dX8_bargain_131 : decode cX8_bargain 131 = .ok (.iload 9, 2) := by decide +kernel
theorem dX8_bargain_133 : decode cX8_bargain 133 = .ok (.iconst 1, 1) := by decide +kernel
theorem dX8_bargain_134 : decode cX8_bargain 134 = .ok (.iadd, 1) := by decide +kernel
theorem dX8_bargain_135 : decode cX8_bargain 135 = .ok (.putfield 157, 3) := by decide +kernel
theorem dX8_bargain_138 : decode cX8_bargain 138 = .ok (.iload 9, 2) := by decide +kernel
theorem dX8_bargain_140 : decode cX8_bargain 140 = .ok (.ireturn, 1) := by decide +kernel
theorem dX8_areCoins_0 : decode cX8_areCoins 0 = .ok (.iload_n 0, 1) := by decide +kernel
theorem dX8_areCoins_1 : decode cX8_areCoins 1 = .ok (.ifCond .lt 13, 3) := by decide +kernel
theorem dX8_areCoins_4 : decode cX8_areCoins 4 = .ok (.iload_n 0, 1) := by decide +kernel
theorem dX8_areCoins_5 : decode cX8_areCoins 5 = .ok (.ldc 150, 2) := by decide +kernel
theorem dX8_areCoins_7 : decode cX8_areCoins 7 = .ok (.if_icmp .gt 7, 3) := by decide +kernel
theorem dX8_areCoins_10 : decode cX8_areCoins 10 = .ok (.iconst 1, 1) := by decide +kernel
theorem dX8_areCoins_11 : decode cX8_areCoins 11 = .ok (.goto 4, 3) := by decide +kernel
theorem dX8_areCoins_14 : decode cX8_areCoins 14 = .ok (.iconst 0, 1) := by decide +kernel
theorem dX8_areCoins_15 : decode cX8_areCoins 15 = .ok (.ireturn, 1) := by decide +kernel
set_option maxRecDepth 20000 in
theorem ggX8_isReport_X8_isWork : GoodIn wsX8_isReport wsX8_isWork := goodIn_r _ [5] (by decide +kernel) (by decide +kernel)
set_option maxRecDepth 20000 in
theorem gX8_isReport_X8_isWork : GoodIn wsX8_isReport (va_wsS RX8 140 yX8_isWork wsX8_isWork) := goodIn_app (goodIn_of _ (by decide +kernel)) ggX8_isReport_X8_isWork
set_option maxRecDepth 20000 in
theorem ggX8_isReport_X8_areCoins : GoodIn wsX8_isReport wsX8_areCoins := goodIn_r _ [8, 9] (by decide +kernel) (by decide +kernel)
set_option maxRecDepth 20000 in
theorem gX8_isReport_X8_areCoins : GoodIn wsX8_isReport (va_wsS RX8 164 yX8_areCoins wsX8_areCoins) := goodIn_app (goodIn_of _ (by decide +kernel)) ggX8_isReport_X8_areCoins
theorem dX8_isReport_0 : decode cX8_isReport 0 = .ok (.iload_n 1, 1) := by decide +kernel
theorem dX8_isReport_1 : decode cX8_isReport 1 = .ok (.invokestatic 140, 3) := by decide +kernel
theorem dX8_isReport_4 : decode cX8_isReport 4 = .ok (.ifCond .eq 43, 3) := by decide +kernel
theorem dX8_isReport_7 : decode cX8_isReport 7 = .ok (.aload_n 0, 1) := by decide +kernel
theorem dX8_isReport_8 : decode cX8_isReport 8 = .ok (.getfield 7, 3) := by decide +kernel
theorem dX8_isReport_11 : decode cX8_isReport 11 = .ok (.iload_n 1, 1) := by decide +kernel
theorem dX8_isReport_12 : decode cX8_isReport 12 = .ok (.iaload, 1) := by decide +kernel
theorem dX8_isReport_13 : decode cX8_isReport 13 = .ok (.ifCond .le 34, 3) := by decide +kernel
theorem dX8_isReport_16 : decode cX8_isReport 16 = .ok (.iload_n 2, 1) := by decide +kernel
theorem dX8_isReport_17 : decode cX8_isReport 17 = .ok (.invokestatic 164, 3) := by decide +kernel
theorem dX8_isReport_20 : decode cX8_isReport 20 = .ok (.ifCond .eq 27, 3) := by decide +kernel
theorem dX8_isReport_23 : decode cX8_isReport 23 = .ok (.iload 5, 2) := by decide +kernel
theorem dX8_isReport_25 : decode cX8_isReport 25 = .ok (.ifCond .eq 18, 3) := by decide +kernel
theorem dX8_isReport_28 : decode cX8_isReport 28 = .ok (.iload_n 3, 1) := by decide +kernel
theorem dX8_isReport_29 : decode cX8_isReport 29 = .ok (.invokestatic 164, 3) := by decide +kernel
theorem dX8_isReport_32 : decode cX8_isReport 32 = .ok (.ifCond .eq 15, 3) := by decide +kernel
theorem dX8_isReport_35 : decode cX8_isReport 35 = .ok (.iload 4, 2) := by decide +kernel
theorem dX8_isReport_37 : decode cX8_isReport 37 = .ok (.invokestatic 164, 3) := by decide +kernel
theorem dX8_isReport_40 : decode cX8_isReport 40 = .ok (.ifCond .eq 7, 3) := by decide +kernel
theorem dX8_isReport_43 : decode cX8_isReport 43 = .ok (.iconst 1, 1) := by decide +kernel
theorem dX8_isReport_44 : decode cX8_isReport 44 = .ok (.goto 4, 3) := by decide +kernel
theorem dX8_isReport_47 : decode cX8_isReport 47 = .ok (.iconst 0, 1) := by decide +kernel
theorem dX8_isReport_48 : decode cX8_isReport 48 = .ok (.ireturn, 1) := by decide +kernel
theorem dX8_puts_0 : decode cX8_puts 0 = .ok (.bipush 12, 2) := by decide +kernel
theorem dX8_puts_2 : decode cX8_puts 2 = .ok (.iload_n 1, 1) := by decide +kernel
theorem dX8_puts_3 : decode cX8_puts 3 = .ok (.imul, 1) := by decide +kernel
theorem dX8_puts_4 : decode cX8_puts 4 = .ok (.iload_n 2, 1) := by decide +kernel
theorem dX8_puts_5 : decode cX8_puts 5 = .ok (.iadd, 1) := by decide +kernel
theorem dX8_puts_6 : decode cX8_puts 6 = .ok (.istore 7, 2) := by decide +kernel
theorem dX8_puts_8 : decode cX8_puts 8 = .ok (.aload_n 0, 1) := by decide +kernel
theorem dX8_puts_9 : decode cX8_puts 9 = .ok (.getfield 55, 3) := by decide +kernel
theorem dX8_puts_12 : decode cX8_puts 12 = .ok (.iload 7, 2) := by decide +kernel
theorem dX8_puts_14 : decode cX8_puts 14 = .ok (.iaload, 1) := by decide +kernel
theorem dX8_puts_15 : decode cX8_puts 15 = .ok (.ifCond .ne 34, 3) := by decide +kernel
theorem dX8_puts_18 : decode cX8_puts 18 = .ok (.aload_n 0, 1) := by decide +kernel
theorem dX8_puts_19 : decode cX8_puts 19 = .ok (.getfield 58, 3) := by decide +kernel
theorem dX8_puts_22 : decode cX8_puts 22 = .ok (.bipush 12, 2) := by decide +kernel
theorem dX8_puts_24 : decode cX8_puts 24 = .ok (.iload_n 1, 1) := by decide +kernel
theorem dX8_puts_25 : decode cX8_puts 25 = .ok (.imul, 1) := by decide +kernel
theorem dX8_puts_26 : decode cX8_puts 26 = .ok (.aload_n 0, 1) := by decide +kernel
theorem dX8_puts_27 : decode cX8_puts 27 = .ok (.getfield 61, 3) := by decide +kernel
theorem dX8_puts_30 : decode cX8_puts 30 = .ok (.iload_n 1, 1) := by decide +kernel
theorem dX8_puts_31 : decode cX8_puts 31 = .ok (.iaload, 1) := by decide +kernel
theorem dX8_puts_32 : decode cX8_puts 32 = .ok (.iadd, 1) := by decide +kernel
theorem dX8_puts_33 : decode cX8_puts 33 = .ok (.iload_n 2, 1) := by decide +kernel
theorem dX8_puts_34 : decode cX8_puts 34 = .ok (.iastore, 1) := by decide +kernel
theorem dX8_puts_35 : decode cX8_puts 35 = .ok (.aload_n 0, 1) := by decide +kernel
theorem dX8_puts_36 : decode cX8_puts 36 = .ok (.getfield 61, 3) := by decide +kernel
theorem dX8_puts_39 : decode cX8_puts 39 = .ok (.iload_n 1, 1) := by decide +kernel
theorem dX8_puts_40 : decode cX8_puts 40 = .ok (.aload_n 0, 1) := by decide +kernel
theorem dX8_puts_41 : decode cX8_puts 41 = .ok (.getfield 61, 3) := by decide +kernel
theorem dX8_puts_44 : decode cX8_puts 44 = .ok (.iload_n 1, 1) := by decide +kernel
theorem dX8_puts_45 : decode cX8_puts 45 = .ok (.iaload, 1) := by decide +kernel
theorem dX8_puts_46 : decode cX8_puts 46 = .ok (.iconst 1, 1) := by decide +kernel
theorem dX8_puts_47 : decode cX8_puts 47 = .ok (.iadd, 1) := by decide +kernel
theorem dX8_puts_48 : decode cX8_puts 48 = .ok (.iastore, 1) := by decide +kernel
theorem dX8_puts_49 : decode cX8_puts 49 = .ok (.aload_n 0, 1) := by decide +kernel
theorem dX8_puts_50 : decode cX8_puts 50 = .ok (.getfield 55, 3) := by decide +kernel
theorem dX8_puts_53 : decode cX8_puts 53 = .ok (.iload 7, 2) := by decide +kernel
theorem dX8_puts_55 : decode cX8_puts 55 = .ok (.iload 6, 2) := by decide +kernel
theorem dX8_puts_57 : decode cX8_puts 57 = .ok (.ifCond .eq 7, 3) := by decide +kernel
theorem dX8_puts_60 : decode cX8_puts 60 = .ok (.iconst 2, 1) := by decide +kernel
theorem dX8_puts_61 : decode cX8_puts 61 = .ok (.goto 4, 3) := by decide +kernel
theorem dX8_puts_64 : decode cX8_puts 64 = .ok (.iconst 1, 1) := by decide +kernel
theorem dX8_puts_65 : decode cX8_puts 65 = .ok (.iastore, 1) := by decide +kernel
theorem dX8_puts_66 : decode cX8_puts 66 = .ok (.aload_n 0, 1) := by decide +kernel
theorem dX8_puts_67 : decode cX8_puts 67 = .ok (.getfield 46, 3) := by decide +kernel
theorem dX8_puts_70 : decode cX8_puts 70 = .ok (.iload 7, 2) := by decide +kernel
theorem dX8_puts_72 : decode cX8_puts 72 = .ok (.iload_n 3, 1) := by decide +kernel
theorem dX8_puts_73 : decode cX8_puts 73 = .ok (.iastore, 1) := by decide +kernel
theorem dX8_puts_74 : decode cX8_puts 74 = .ok (.aload_n 0, 1) := by decide +kernel
theorem dX8_puts_75 : decode cX8_puts 75 = .ok (.getfield 49, 3) := by decide +kernel
theorem dX8_puts_78 : decode cX8_puts 78 = .ok (.iload 7, 2) := by decide +kernel
theorem dX8_puts_80 : decode cX8_puts 80 = .ok (.iload 6, 2) := by decide +kernel
theorem dX8_puts_82 : decode cX8_puts 82 = .ok (.ifCond .eq 8, 3) := by decide +kernel
theorem dX8_puts_85 : decode cX8_puts 85 = .ok (.iload 4, 2) := by decide +kernel
theorem dX8_puts_87 : decode cX8_puts 87 = .ok (.goto 4, 3) := by decide +kernel
theorem dX8_puts_90 : decode cX8_puts 90 = .ok (.iconst 0, 1) := by decide +kernel
theorem dX8_puts_91 : decode cX8_puts 91 = .ok (.iastore, 1) := by decide +kernel
theorem dX8_puts_92 : decode cX8_puts 92 = .ok (.aload_n 0, 1) := by decide +kernel
theorem dX8_puts_93 : decode cX8_puts 93 = .ok (.getfield 52, 3) := by decide +kernel
theorem dX8_puts_96 : decode cX8_puts 96 = .ok (.iload 7, 2) := by decide +kernel
theorem dX8_puts_98 : decode cX8_puts 98 = .ok (.iload 6, 2) := by decide +kernel
theorem dX8_puts_100 : decode cX8_puts 100 = .ok (.ifCond .eq 8, 3) := by decide +kernel
theorem dX8_puts_103 : decode cX8_puts 103 = .ok (.iload 5, 2) := by decide +kernel
theorem dX8_puts_105 : decode cX8_puts 105 = .ok (.goto 4, 3) := by decide +kernel
theorem dX8_puts_108 : decode cX8_puts 108 = .ok (.iconst 0, 1) := by decide +kernel
theorem dX8_puts_109 : decode cX8_puts 109 = .ok (.iastore, 1) := by decide +kernel
theorem dX8_puts_110 : decode cX8_puts 110 = .ok (.return_, 1) := by decide +kernel
set_option maxRecDepth 20000 in
theorem ggX8_report_X8_isReport : GoodIn wsX8_report wsX8_isReport := goodIn_r _ [6, 7, 8, 9, 5, 10, 11, 12, 13, 14, 25, 26, 27, 28, 29, 30, 31, 32, 33, 34, 35, 36, 37, 38, 39, 40, 41, 42, 43, 44, 45, 46, 47, 48, 49, 50, 51, 52, 53, 54, 55, 56, 57, 58, 59, 60, 61, 62, 63, 64, 65, 66, 67, 68, 69, 70, 71] (by decide +kernel) (by decide +kernel)
set_option maxRecDepth 20000 in
theorem gX8_report_X8_isReport : GoodIn wsX8_report (wsV RX8 167 RX8 yX8_isReport wsX8_isReport) := goodIn_app (goodIn_of _ (by decide +kernel)) ggX8_report_X8_isReport
set_option maxRecDepth 20000 in
theorem ggX8_report_X8_puts : GoodIn wsX8_report wsX8_puts := goodIn_r _ [18, 19, 20, 21, 22, 23, 24, 25, 26, 27, 28, 29, 30, 31, 32, 33, 34, 35, 36, 37, 38, 39, 40, 41, 42, 43, 44, 45, 46, 47, 48, 49, 50, 51, 52, 53, 54, 55, 56, 57, 58, 59, 60, 61, 62, 63, 64, 65, 66, 67, 68, 69, 70, 71] (by decide +kernel) (by decide +kernel)
set_option maxRecDepth 20000 in
theorem gX8_report_X8_puts : GoodIn wsX8_report (wsV RX8 171 RX8 yX8_puts wsX8_puts) := goodIn_app (goodIn_of _ (by decide +kernel)) ggX8_report_X8_puts
theorem dX8_report_0 : decode cX8_report 0 = .ok (.aload_n 0, 1) := by decide +kernel
theorem dX8_report_1 : decode cX8_report 1 = .ok (.getfield 136, 3) := by decide +kernel
theorem dX8_report_4 : decode cX8_report 4 = .ok (.bipush 40, 2) := by decide +kernel
theorem dX8_report_6 : decode cX8_report 6 = .ok (.if_icmp .eq 17, 3) := by decide +kernel
theorem dX8_report_9 : decode cX8_report 9 = .ok (.aload_n 0, 1) := by decide +kernel
theorem dX8_report_10 : decode cX8_report 10 = .ok (.iload_n 1, 1) := by decide +kernel
theorem dX8_report_11 : decode cX8_report 11 = .ok (.iload_n 2, 1) := by decide +kernel
theorem dX8_report_12 : decode cX8_report 12 = .ok (.iload_n 3, 1) := by decide +kernel
theorem dX8_report_13 : decode cX8_report 13 = .ok (.iload 4, 2) := by decide +kernel
theorem dX8_report_15 : decode cX8_report 15 = .ok (.iload 5, 2) := by decide +kernel
theorem dX8_report_17 : decode cX8_report 17 = .ok (.invokevirtual 167, 3) := by decide +kernel
theorem dX8_report_20 : decode cX8_report 20 = .ok (.ifCond .ne 5, 3) := by decide +kernel
theorem dX8_report_23 : decode cX8_report 23 = .ok (.iconst 0, 1) := by decide +kernel
theorem dX8_report_24 : decode cX8_report 24 = .ok (.ireturn, 1) := by decide +kernel
theorem dX8_report_25 : decode cX8_report 25 = .ok (.aload_n 0, 1) := by decide +kernel
theorem dX8_report_26 : decode cX8_report 26 = .ok (.aload_n 0, 1) := by decide +kernel
theorem dX8_report_27 : decode cX8_report 27 = .ok (.getfield 136, 3) := by decide +kernel
theorem dX8_report_30 : decode cX8_report 30 = .ok (.iload_n 1, 1) := by decide +kernel
theorem dX8_report_31 : decode cX8_report 31 = .ok (.iload_n 2, 1) := by decide +kernel
theorem dX8_report_32 : decode cX8_report 32 = .ok (.iload_n 3, 1) := by decide +kernel
theorem dX8_report_33 : decode cX8_report 33 = .ok (.iload 4, 2) := by decide +kernel
theorem dX8_report_35 : decode cX8_report 35 = .ok (.iload 5, 2) := by decide +kernel
theorem dX8_report_37 : decode cX8_report 37 = .ok (.invokevirtual 171, 3) := by decide +kernel
theorem dX8_report_40 : decode cX8_report 40 = .ok (.iconst 1, 1) := by decide +kernel
theorem dX8_report_41 : decode cX8_report 41 = .ok (.ireturn, 1) := by decide +kernel
set_option maxRecDepth 20000 in
theorem ggX8_mend_X8_isReport : GoodIn wsX8_mend wsX8_isReport := goodIn_r _ [7, 8, 9, 10, 6, 11, 12, 13, 14, 15, 26, 27, 28, 29, 30, 31, 32, 33, 34, 35, 36, 37, 38, 39, 40, 41, 42, 43, 44, 45, 46, 47, 48, 49, 50, 51, 52, 53, 54, 55, 56, 57, 58, 59, 60, 61, 62, 63, 64, 65, 66, 67, 68, 69, 70, 71, 72] (by decide +kernel) (by decide +kernel)
set_option maxRecDepth 20000 in
theorem gX8_mend_X8_isReport : GoodIn wsX8_mend (wsV RX8 167 RX8 yX8_isReport wsX8_isReport) := goodIn_app (goodIn_of _ (by decide +kernel)) ggX8_mend_X8_isReport
set_option maxRecDepth 20000 in
theorem ggX8_mend_X8_puts : GoodIn wsX8_mend wsX8_puts := goodIn_r _ [19, 20, 21, 22, 23, 24, 25, 26, 27, 28, 29, 30, 31, 32, 33, 34, 35, 36, 37, 38, 39, 40, 41, 42, 43, 44, 45, 46, 47, 48, 49, 50, 51, 52, 53, 54, 55, 56, 57, 58, 59, 60, 61, 62, 63, 64, 65, 66, 67, 68, 69, 70, 71, 72] (by decide +kernel) (by decide +kernel)
set_option maxRecDepth 20000 in
theorem gX8_mend_X8_puts : GoodIn wsX8_mend (wsV RX8 171 RX8 yX8_puts wsX8_puts) := goodIn_app (goodIn_of _ (by decide +kernel)) ggX8_mend_X8_puts
theorem dX8_mend_0 : decode cX8_mend 0 = .ok (.iload_n 1, 1) := by decide +kernel
theorem dX8_mend_1 : decode cX8_mend 1 = .ok (.ifCond .lt 26, 3) := by decide +kernel
theorem dX8_mend_4 : decode cX8_mend 4 = .ok (.iload_n 1, 1) := by decide +kernel
theorem dX8_mend_5 : decode cX8_mend 5 = .ok (.aload_n 0, 1) := by decide +kernel
theorem dX8_mend_6 : decode cX8_mend 6 = .ok (.getfield 136, 3) := by decide +kernel
theorem dX8_mend_9 : decode cX8_mend 9 = .ok (.if_icmp .ge 18, 3) := by decide +kernel
theorem dX8_mend_12 : decode cX8_mend 12 = .ok (.aload_n 0, 1) := by decide +kernel
theorem dX8_mend_13 : decode cX8_mend 13 = .ok (.iload_n 2, 1) := by decide +kernel
theorem dX8_mend_14 : decode cX8_mend 14 = .ok (.iload_n 3, 1) := by decide +kernel
theorem dX8_mend_15 : decode cX8_mend 15 = .ok (.iload 4, 2) := by decide +kernel
theorem dX8_mend_17 : decode cX8_mend 17 = .ok (.iload 5, 2) := by decide +kernel
theorem dX8_mend_19 : decode cX8_mend 19 = .ok (.iload 6, 2) := by decide +kernel
theorem dX8_mend_21 : decode cX8_mend 21 = .ok (.invokevirtual 167, 3) := by decide +kernel
theorem dX8_mend_24 : decode cX8_mend 24 = .ok (.ifCond .ne 5, 3) := by decide +kernel
theorem dX8_mend_27 : decode cX8_mend 27 = .ok (.iconst 0, 1) := by decide +kernel
theorem dX8_mend_28 : decode cX8_mend 28 = .ok (.ireturn, 1) := by decide +kernel
theorem dX8_mend_29 : decode cX8_mend 29 = .ok (.aload_n 0, 1) := by decide +kernel
theorem dX8_mend_30 : decode cX8_mend 30 = .ok (.iload_n 1, 1) := by decide +kernel
theorem dX8_mend_31 : decode cX8_mend 31 = .ok (.iload_n 2, 1) := by decide +kernel
theorem dX8_mend_32 : decode cX8_mend 32 = .ok (.iload_n 3, 1) := by decide +kernel
theorem dX8_mend_33 : decode cX8_mend 33 = .ok (.iload 4, 2) := by decide +kernel
theorem dX8_mend_35 : decode cX8_mend 35 = .ok (.iload 5, 2) := by decide +kernel
theorem dX8_mend_37 : decode cX8_mend 37 = .ok (.iload 6, 2) := by decide +kernel
theorem dX8_mend_39 : decode cX8_mend 39 = .ok (.invokevirtual 171, 3) := by decide +kernel
theorem dX8_mend_42 : decode cX8_mend 42 = .ok (.aload_n 0, 1) := by decide +kernel
theorem dX8_mend_43 : decode cX8_mend 43 = .ok (.getfield 67, 3) := by decide +kernel
theorem dX8_mend_46 : decode cX8_mend 46 = .ok (.bipush 12, 2) := by decide +kernel
theorem dX8_mend_48 : decode cX8_mend 48 = .ok (.iload_n 1, 1) := by decide +kernel
theorem dX8_mend_49 : decode cX8_mend 49 = .ok (.imul, 1) := by decide +kernel
theorem dX8_mend_50 : decode cX8_mend 50 = .ok (.iload_n 2, 1) := by decide +kernel
theorem dX8_mend_51 : decode cX8_mend 51 = .ok (.iadd, 1) := by decide +kernel
theorem dX8_mend_52 : decode cX8_mend 52 = .ok (.iconst 1, 1) := by decide +kernel
theorem dX8_mend_53 : decode cX8_mend 53 = .ok (.bastore, 1) := by decide +kernel
theorem dX8_mend_54 : decode cX8_mend 54 = .ok (.iconst 1, 1) := by decide +kernel
theorem dX8_mend_55 : decode cX8_mend 55 = .ok (.ireturn, 1) := by decide +kernel
theorem dX8_tear_0 : decode cX8_tear 0 = .ok (.iload_n 1, 1) := by decide +kernel
theorem dX8_tear_1 : decode cX8_tear 1 = .ok (.iconst (-1), 1) := by decide +kernel
theorem dX8_tear_2 : decode cX8_tear 2 = .ok (.if_icmp .lt 18, 3) := by decide +kernel
theorem dX8_tear_5 : decode cX8_tear 5 = .ok (.iload_n 1, 1) := by decide +kernel
theorem dX8_tear_6 : decode cX8_tear 6 = .ok (.bipush 12, 2) := by decide +kernel
theorem dX8_tear_8 : decode cX8_tear 8 = .ok (.if_icmp .gt 12, 3) := by decide +kernel
theorem dX8_tear_11 : decode cX8_tear 11 = .ok (.aload_n 0, 1) := by decide +kernel
theorem dX8_tear_12 : decode cX8_tear 12 = .ok (.getfield 136, 3) := by decide +kernel
theorem dX8_tear_15 : decode cX8_tear 15 = .ok (.bipush 40, 2) := by decide +kernel
theorem dX8_tear_17 : decode cX8_tear 17 = .ok (.if_icmp .ne 5, 3) := by decide +kernel
theorem dX8_tear_20 : decode cX8_tear 20 = .ok (.iconst 0, 1) := by decide +kernel
theorem dX8_tear_21 : decode cX8_tear 21 = .ok (.ireturn, 1) := by decide +kernel
theorem dX8_tear_22 : decode cX8_tear 22 = .ok (.aload_n 0, 1) := by decide +kernel
theorem dX8_tear_23 : decode cX8_tear 23 = .ok (.getfield 64, 3) := by decide +kernel
theorem dX8_tear_26 : decode cX8_tear 26 = .ok (.aload_n 0, 1) := by decide +kernel
theorem dX8_tear_27 : decode cX8_tear 27 = .ok (.getfield 136, 3) := by decide +kernel
theorem dX8_tear_30 : decode cX8_tear 30 = .ok (.iload_n 1, 1) := by decide +kernel
theorem dX8_tear_31 : decode cX8_tear 31 = .ok (.ifCond .ge 7, 3) := by decide +kernel
theorem dX8_tear_34 : decode cX8_tear 34 = .ok (.iconst 0, 1) := by decide +kernel
theorem dX8_tear_35 : decode cX8_tear 35 = .ok (.goto 4, 3) := by decide +kernel
theorem dX8_tear_38 : decode cX8_tear 38 = .ok (.iload_n 1, 1) := by decide +kernel
theorem dX8_tear_39 : decode cX8_tear 39 = .ok (.iastore, 1) := by decide +kernel
theorem dX8_tear_40 : decode cX8_tear 40 = .ok (.iconst 1, 1) := by decide +kernel
theorem dX8_tear_41 : decode cX8_tear 41 = .ok (.ireturn, 1) := by decide +kernel
theorem dX8_isOpen_0 : decode cX8_isOpen 0 = .ok (.iload_n 2, 1) := by decide +kernel
theorem dX8_isOpen_1 : decode cX8_isOpen 1 = .ok (.aload_n 0, 1) := by decide +kernel
theorem dX8_isOpen_2 : decode cX8_isOpen 2 = .ok (.getfield 64, 3) := by decide +kernel
theorem dX8_isOpen_5 : decode cX8_isOpen 5 = .ok (.iload_n 1, 1) := by decide +kernel
theorem dX8_isOpen_6 : decode cX8_isOpen 6 = .ok (.iaload, 1) := by decide +kernel
theorem dX8_isOpen_7 : decode cX8_isOpen 7 = .ok (.if_icmp .lt 21, 3) := by decide +kernel
theorem dX8_isOpen_10 : decode cX8_isOpen 10 = .ok (.aload_n 0, 1) := by decide +kernel
theorem dX8_isOpen_11 : decode cX8_isOpen 11 = .ok (.getfield 67, 3) := by decide +kernel
theorem dX8_isOpen_14 : decode cX8_isOpen 14 = .ok (.bipush 12, 2) := by decide +kernel
theorem dX8_isOpen_16 : decode cX8_isOpen 16 = .ok (.iload_n 1, 1) := by decide +kernel
theorem dX8_isOpen_17 : decode cX8_isOpen 17 = .ok (.imul, 1) := by decide +kernel
theorem dX8_isOpen_18 : decode cX8_isOpen 18 = .ok (.iload_n 2, 1) := by decide +kernel
theorem dX8_isOpen_19 : decode cX8_isOpen 19 = .ok (.iadd, 1) := by decide +kernel
theorem dX8_isOpen_20 : decode cX8_isOpen 20 = .ok (.baload, 1) := by decide +kernel
theorem dX8_isOpen_21 : decode cX8_isOpen 21 = .ok (.ifCond .ne 7, 3) := by decide +kernel
theorem dX8_isOpen_24 : decode cX8_isOpen 24 = .ok (.iconst 1, 1) := by decide +kernel
theorem dX8_isOpen_25 : decode cX8_isOpen 25 = .ok (.goto 4, 3) := by decide +kernel
theorem dX8_isOpen_28 : decode cX8_isOpen 28 = .ok (.iconst 0, 1) := by decide +kernel
theorem dX8_isOpen_29 : decode cX8_isOpen 29 = .ok (.ireturn, 1) := by decide +kernel
set_option maxRecDepth 20000 in
theorem ggX8_told_X8_isWork : GoodIn wsX8_told wsX8_isWork := goodIn_r _ [11] (by decide +kernel) (by decide +kernel)
set_option maxRecDepth 20000 in
theorem gX8_told_X8_isWork : GoodIn wsX8_told (va_wsS RX8 140 yX8_isWork wsX8_isWork) := goodIn_app (goodIn_of _ (by decide +kernel)) ggX8_told_X8_isWork
set_option maxRecDepth 20000 in
theorem ggX8_told_X8_isOpen : GoodIn wsX8_told wsX8_isOpen := goodIn_r _ [15, 16, 17, 18, 19, 20, 21, 22, 23, 24, 25, 26, 27, 28, 29, 30, 31, 32, 33, 34, 35, 36, 37, 38, 39, 40, 41, 42, 43, 44, 45, 46, 47, 48, 49, 50, 51, 52, 53, 54, 55, 56, 57, 58, 59, 60, 61, 62, 63, 64] (by decide +kernel) (by decide +kernel)
set_option maxRecDepth 20000 in
theorem gX8_told_X8_isOpen : GoodIn wsX8_told (wsV RX8 175 RX8 yX8_isOpen wsX8_isOpen) := goodIn_app (goodIn_of _ (by decide +kernel)) ggX8_told_X8_isOpen
theorem dX8_told_0 : decode cX8_told 0 = .ok (.iload_n 1, 1) := by decide +kernel
theorem dX8_told_1 : decode cX8_told 1 = .ok (.ifCond .lt 24, 3) := by decide +kernel
theorem dX8_told_4 : decode cX8_told 4 = .ok (.iload_n 1, 1) := by decide +kernel
theorem dX8_told_5 : decode cX8_told 5 = .ok (.aload_n 0, 1) := by decide +kernel
theorem dX8_told_6 : decode cX8_told 6 = .ok (.getfield 136, 3) := by decide +kernel
theorem dX8_told_9 : decode cX8_told 9 = .ok (.if_icmp .gt 16, 3) := by decide +kernel
theorem dX8_told_12 : decode cX8_told 12 = .ok (.iload_n 1, 1) := by decide +kernel
theorem dX8_told_13 : decode cX8_told 13 = .ok (.bipush 40, 2) := by decide +kernel
theorem dX8_told_15 : decode cX8_told 15 = .ok (.if_icmp .ge 10, 3) := by decide +kernel
theorem dX8_told_18 : decode cX8_told 18 = .ok (.iload_n 2, 1) := by decide +kernel
theorem dX8_told_19 : decode cX8_told 19 = .ok (.invokestatic 140, 3) := by decide +kernel
theorem dX8_told_22 : decode cX8_told 22 = .ok (.ifCond .ne 5, 3) := by decide +kernel
theorem dX8_told_25 : decode cX8_told 25 = .ok (.iconst (-1), 1) := by decide +kernel
theorem dX8_told_26 : decode cX8_told 26 = .ok (.ireturn, 1) := by decide +kernel
theorem dX8_told_27 : decode cX8_told 27 = .ok (.bipush 12, 2) := by decide +kernel
theorem dX8_told_29 : decode cX8_told 29 = .ok (.iload_n 1, 1) := by decide +kernel
theorem dX8_told_30 : decode cX8_told 30 = .ok (.imul, 1) := by decide +kernel
theorem dX8_told_31 : decode cX8_told 31 = .ok (.iload_n 2, 1) := by decide +kernel
theorem dX8_told_32 : decode cX8_told 32 = .ok (.iadd, 1) := by decide +kernel
theorem dX8_told_33 : decode cX8_told 33 = .ok (.istore 4, 2) := by decide +kernel
theorem dX8_told_35 : decode cX8_told 35 = .ok (.iload_n 3, 1) := by decide +kernel
theorem dX8_told_36 : decode cX8_told 36 = .ok (.tableswitch 124 0 4 #[36, 44, 52, 60, 83], 36) := by decide +kernel
theorem dX8_told_72 : decode cX8_told 72 = .ok (.aload_n 0, 1) := by decide +kernel
theorem dX8_told_73 : decode cX8_told 73 = .ok (.getfield 46, 3) := by decide +kernel
theorem dX8_told_76 : decode cX8_told 76 = .ok (.iload 4, 2) := by decide +kernel
theorem dX8_told_78 : decode cX8_told 78 = .ok (.iaload, 1) := by decide +kernel
theorem dX8_told_79 : decode cX8_told 79 = .ok (.ireturn, 1) := by decide +kernel
theorem dX8_told_80 : decode cX8_told 80 = .ok (.aload_n 0, 1) := by decide +kernel
theorem dX8_told_81 : decode cX8_told 81 = .ok (.getfield 49, 3) := by decide +kernel
theorem dX8_told_84 : decode cX8_told 84 = .ok (.iload 4, 2) := by decide +kernel
theorem dX8_told_86 : decode cX8_told 86 = .ok (.iaload, 1) := by decide +kernel
theorem dX8_told_87 : decode cX8_told 87 = .ok (.ireturn, 1) := by decide +kernel
theorem dX8_told_88 : decode cX8_told 88 = .ok (.aload_n 0, 1) := by decide +kernel
theorem dX8_told_89 : decode cX8_told 89 = .ok (.getfield 52, 3) := by decide +kernel
theorem dX8_told_92 : decode cX8_told 92 = .ok (.iload 4, 2) := by decide +kernel
theorem dX8_told_94 : decode cX8_told 94 = .ok (.iaload, 1) := by decide +kernel
theorem dX8_told_95 : decode cX8_told 95 = .ok (.ireturn, 1) := by decide +kernel
theorem dX8_told_96 : decode cX8_told 96 = .ok (.aload_n 0, 1) := by decide +kernel
theorem dX8_told_97 : decode cX8_told 97 = .ok (.getfield 55, 3) := by decide +kernel
theorem dX8_told_100 : decode cX8_told 100 = .ok (.iload 4, 2) := by decide +kernel
theorem dX8_told_102 : decode cX8_told 102 = .ok (.iaload, 1) := by decide +kernel
theorem dX8_told_103 : decode cX8_told 103 = .ok (.aload_n 0, 1) := by decide +kernel
theorem dX8_told_104 : decode cX8_told 104 = .ok (.iload_n 1, 1) := by decide +kernel
theorem dX8_told_105 : decode cX8_told 105 = .ok (.iload_n 2, 1) := by decide +kernel
theorem dX8_told_106 : decode cX8_told 106 = .ok (.invokevirtual 175, 3) := by decide +kernel
theorem dX8_told_109 : decode cX8_told 109 = .ok (.ifCond .eq 7, 3) := by decide +kernel
theorem dX8_told_112 : decode cX8_told 112 = .ok (.iconst 4, 1) := by decide +kernel
theorem dX8_told_113 : decode cX8_told 113 = .ok (.goto 4, 3) := by decide +kernel
theorem dX8_told_116 : decode cX8_told 116 = .ok (.iconst 0, 1) := by decide +kernel
theorem dX8_told_117 : decode cX8_told 117 = .ok (.iadd, 1) := by decide +kernel
theorem dX8_told_118 : decode cX8_told 118 = .ok (.ireturn, 1) := by decide +kernel
theorem dX8_told_119 : decode cX8_told 119 = .ok (.iconst 0, 1) := by decide +kernel
theorem dX8_told_120 : decode cX8_told 120 = .ok (.istore 5, 2) := by decide +kernel
theorem dX8_told_122 : decode cX8_told 122 = .ok (.iload 5, 2) := by decide +kernel
theorem dX8_told_124 : decode cX8_told 124 = .ok (.aload_n 0, 1) := by decide +kernel
theorem dX8_told_125 : decode cX8_told 125 = .ok (.getfield 61, 3) := by decide +kernel
theorem dX8_told_128 : decode cX8_told 128 = .ok (.iload_n 1, 1) := by decide +kernel
theorem dX8_told_129 : decode cX8_told 129 = .ok (.iaload, 1) := by decide +kernel
theorem dX8_told_130 : decode cX8_told 130 = .ok (.if_icmp .ge 28, 3) := by decide +kernel
theorem dX8_told_133 : decode cX8_told 133 = .ok (.aload_n 0, 1) := by decide +kernel
theorem dX8_told_134 : decode cX8_told 134 = .ok (.getfield 58, 3) := by decide +kernel
theorem dX8_told_137 : decode cX8_told 137 = .ok (.bipush 12, 2) := by decide +kernel
theorem dX8_told_139 : decode cX8_told 139 = .ok (.iload_n 1, 1) := by decide +kernel
theorem dX8_told_140 : decode cX8_told 140 = .ok (.imul, 1) := by decide +kernel
theorem dX8_told_141 : decode cX8_told 141 = .ok (.iload 5, 2) := by decide +kernel
theorem dX8_told_143 : decode cX8_told 143 = .ok (.iadd, 1) := by decide +kernel
theorem dX8_told_144 : decode cX8_told 144 = .ok (.iaload, 1) := by decide +kernel
theorem dX8_told_145 : decode cX8_told 145 = .ok (.iload_n 2, 1) := by decide +kernel
theorem dX8_told_146 : decode cX8_told 146 = .ok (.if_icmp .ne 6, 3) := by decide +kernel
theorem dX8_told_149 : decode cX8_told 149 = .ok (.iload 5, 2) := by decide +kernel
theorem dX8_told_151 : decode cX8_told 151 = .ok (.ireturn, 1) := by decide +kernel
theorem dX8_told_152 : decode cX8_told 152 = .ok (.iinc 5 1, 3) := by decide +kernel
theorem dX8_told_155 : decode cX8_told 155 = .ok (.goto (-33), 3) := by decide +kernel
theorem dX8_told_158 : decode cX8_told 158 = .ok (.iconst (-1), 1) := by decide +kernel
theorem dX8_told_159 : decode cX8_told 159 = .ok (.ireturn, 1) := by decide +kernel
theorem dX8_told_160 : decode cX8_told 160 = .ok (.iconst (-1), 1) := by decide +kernel
theorem dX8_told_161 : decode cX8_told 161 = .ok (.ireturn, 1) := by decide +kernel
theorem dX8_empties_0 : decode cX8_empties 0 = .ok (.bipush 12, 2) := by decide +kernel
theorem dX8_empties_2 : decode cX8_empties 2 = .ok (.istore_n 1, 1) := by decide +kernel
theorem dX8_empties_3 : decode cX8_empties 3 = .ok (.iload_n 1, 1) := by decide +kernel
theorem dX8_empties_4 : decode cX8_empties 4 = .ok (.bipush 24, 2) := by decide +kernel
theorem dX8_empties_6 : decode cX8_empties 6 = .ok (.if_icmp .ge 30, 3) := by decide +kernel
theorem dX8_empties_9 : decode cX8_empties 9 = .ok (.aload_n 0, 1) := by decide +kernel
theorem dX8_empties_10 : decode cX8_empties 10 = .ok (.getfield 71, 3) := by decide +kernel
theorem dX8_empties_13 : decode cX8_empties 13 = .ok (.iload_n 1, 1) := by decide +kernel
theorem dX8_empties_14 : decode cX8_empties 14 = .ok (.lconst 0, 1) := by decide +kernel
theorem dX8_empties_15 : decode cX8_empties 15 = .ok (.lastore, 1) := by decide +kernel
theorem dX8_empties_16 : decode cX8_empties 16 = .ok (.aload_n 0, 1) := by decide +kernel
theorem dX8_empties_17 : decode cX8_empties 17 = .ok (.getfield 75, 3) := by decide +kernel
theorem dX8_empties_20 : decode cX8_empties 20 = .ok (.iload_n 1, 1) := by decide +kernel
theorem dX8_empties_21 : decode cX8_empties 21 = .ok (.lconst 0, 1) := by decide +kernel
theorem dX8_empties_22 : decode cX8_empties 22 = .ok (.lastore, 1) := by decide +kernel
theorem dX8_empties_23 : decode cX8_empties 23 = .ok (.aload_n 0, 1) := by decide +kernel
theorem dX8_empties_24 : decode cX8_empties 24 = .ok (.getfield 90, 3) := by decide +kernel
theorem dX8_empties_27 : decode cX8_empties 27 = .ok (.iload_n 1, 1) := by decide +kernel
theorem dX8_empties_28 : decode cX8_empties 28 = .ok (.iconst 0, 1) := by decide +kernel
theorem dX8_empties_29 : decode cX8_empties 29 = .ok (.iastore, 1) := by decide +kernel
theorem dX8_empties_30 : decode cX8_empties 30 = .ok (.iinc 1 1, 3) := by decide +kernel
theorem dX8_empties_33 : decode cX8_empties 33 = .ok (.goto (-30), 3) := by decide +kernel
theorem dX8_empties_36 : decode cX8_empties 36 = .ok (.bipush 24, 2) := by decide +kernel
theorem dX8_empties_38 : decode cX8_empties 38 = .ok (.istore_n 1, 1) := by decide +kernel
theorem dX8_empties_39 : decode cX8_empties 39 = .ok (.iload_n 1, 1) := by decide +kernel
theorem dX8_empties_40 : decode cX8_empties 40 = .ok (.bipush 48, 2) := by decide +kernel
theorem dX8_empties_42 : decode cX8_empties 42 = .ok (.if_icmp .ge 23, 3) := by decide +kernel
theorem dX8_empties_45 : decode cX8_empties 45 = .ok (.aload_n 0, 1) := by decide +kernel
theorem dX8_empties_46 : decode cX8_empties 46 = .ok (.getfield 78, 3) := by decide +kernel
theorem dX8_empties_49 : decode cX8_empties 49 = .ok (.iload_n 1, 1) := by decide +kernel
theorem dX8_empties_50 : decode cX8_empties 50 = .ok (.lconst 0, 1) := by decide +kernel
theorem dX8_empties_51 : decode cX8_empties 51 = .ok (.lastore, 1) := by decide +kernel
theorem dX8_empties_52 : decode cX8_empties 52 = .ok (.aload_n 0, 1) := by decide +kernel
theorem dX8_empties_53 : decode cX8_empties 53 = .ok (.getfield 81, 3) := by decide +kernel
theorem dX8_empties_56 : decode cX8_empties 56 = .ok (.iload_n 1, 1) := by decide +kernel
theorem dX8_empties_57 : decode cX8_empties 57 = .ok (.lconst 0, 1) := by decide +kernel
theorem dX8_empties_58 : decode cX8_empties 58 = .ok (.lastore, 1) := by decide +kernel
theorem dX8_empties_59 : decode cX8_empties 59 = .ok (.iinc 1 1, 3) := by decide +kernel
theorem dX8_empties_62 : decode cX8_empties 62 = .ok (.goto (-23), 3) := by decide +kernel
theorem dX8_empties_65 : decode cX8_empties 65 = .ok (.sipush 960, 3) := by decide +kernel
theorem dX8_empties_68 : decode cX8_empties 68 = .ok (.istore_n 1, 1) := by decide +kernel
theorem dX8_empties_69 : decode cX8_empties 69 = .ok (.iload_n 1, 1) := by decide +kernel
theorem dX8_empties_70 : decode cX8_empties 70 = .ok (.sipush 1920, 3) := by decide +kernel
theorem dX8_empties_73 : decode cX8_empties 73 = .ok (.if_icmp .ge 16, 3) := by decide +kernel
theorem dX8_empties_76 : decode cX8_empties 76 = .ok (.aload_n 0, 1) := by decide +kernel
theorem dX8_empties_77 : decode cX8_empties 77 = .ok (.getfield 84, 3) := by decide +kernel
theorem dX8_empties_80 : decode cX8_empties 80 = .ok (.iload_n 1, 1) := by decide +kernel
theorem dX8_empties_81 : decode cX8_empties 81 = .ok (.lconst 0, 1) := by decide +kernel
theorem dX8_empties_82 : decode cX8_empties 82 = .ok (.lastore, 1) := by decide +kernel
theorem dX8_empties_83 : decode cX8_empties 83 = .ok (.iinc 1 1, 3) := by decide +kernel
theorem dX8_empties_86 : decode cX8_empties 86 = .ok (.goto (-17), 3) := by decide +kernel
theorem dX8_empties_89 : decode cX8_empties 89 = .ok (.sipush 480, 3) := by decide +kernel
theorem dX8_empties_92 : decode cX8_empties 92 = .ok (.istore_n 1, 1) := by decide +kernel
theorem dX8_empties_93 : decode cX8_empties 93 = .ok (.iload_n 1, 1) := by decide +kernel
theorem dX8_empties_94 : decode cX8_empties 94 = .ok (.sipush 960, 3) := by decide +kernel
theorem dX8_empties_97 : decode cX8_empties 97 = .ok (.if_icmp .ge 16, 3) := by decide +kernel
theorem dX8_empties_100 : decode cX8_empties 100 = .ok (.aload_n 0, 1) := by decide +kernel
theorem dX8_empties_101 : decode cX8_empties 101 = .ok (.getfield 87, 3) := by decide +kernel
theorem dX8_empties_104 : decode cX8_empties 104 = .ok (.iload_n 1, 1) := by decide +kernel
theorem dX8_empties_105 : decode cX8_empties 105 = .ok (.iconst 0, 1) := by decide +kernel
theorem dX8_empties_106 : decode cX8_empties 106 = .ok (.iastore, 1) := by decide +kernel
theorem dX8_empties_107 : decode cX8_empties 107 = .ok (.iinc 1 1, 3) := by decide +kernel
theorem dX8_empties_110 : decode cX8_empties 110 = .ok (.goto (-17), 3) := by decide +kernel
theorem dX8_empties_113 : decode cX8_empties 113 = .ok (.aload_n 0, 1) := by decide +kernel
theorem dX8_empties_114 : decode cX8_empties 114 = .ok (.getfield 93, 3) := by decide +kernel
theorem dX8_empties_117 : decode cX8_empties 117 = .ok (.iconst 1, 1) := by decide +kernel
theorem dX8_empties_118 : decode cX8_empties 118 = .ok (.lconst 0, 1) := by decide +kernel
theorem dX8_empties_119 : decode cX8_empties 119 = .ok (.lastore, 1) := by decide +kernel
theorem dX8_empties_120 : decode cX8_empties 120 = .ok (.return_, 1) := by decide +kernel
theorem dX8_bag_0 : decode cX8_bag 0 = .ok (.iload_n 0, 1) := by decide +kernel
theorem dX8_bag_1 : decode cX8_bag 1 = .ok (.bipush 24, 2) := by decide +kernel
theorem dX8_bag_3 : decode cX8_bag 3 = .ok (.imul, 1) := by decide +kernel
theorem dX8_bag_4 : decode cX8_bag 4 = .ok (.iload_n 1, 1) := by decide +kernel
theorem dX8_bag_5 : decode cX8_bag 5 = .ok (.iadd, 1) := by decide +kernel
theorem dX8_bag_6 : decode cX8_bag 6 = .ok (.bipush 40, 2) := by decide +kernel
theorem dX8_bag_8 : decode cX8_bag 8 = .ok (.imul, 1) := by decide +kernel
theorem dX8_bag_9 : decode cX8_bag 9 = .ok (.iload_n 2, 1) := by decide +kernel
theorem dX8_bag_10 : decode cX8_bag 10 = .ok (.iadd, 1) := by decide +kernel
theorem dX8_bag_11 : decode cX8_bag 11 = .ok (.ireturn, 1) := by decide +kernel
theorem dX8_dueAt_0 : decode cX8_dueAt 0 = .ok (.iload_n 0, 1) := by decide +kernel
theorem dX8_dueAt_1 : decode cX8_dueAt 1 = .ok (.bipush 12, 2) := by decide +kernel
theorem dX8_dueAt_3 : decode cX8_dueAt 3 = .ok (.imul, 1) := by decide +kernel
theorem dX8_dueAt_4 : decode cX8_dueAt 4 = .ok (.iload_n 1, 1) := by decide +kernel
theorem dX8_dueAt_5 : decode cX8_dueAt 5 = .ok (.iadd, 1) := by decide +kernel
theorem dX8_dueAt_6 : decode cX8_dueAt 6 = .ok (.bipush 40, 2) := by decide +kernel
theorem dX8_dueAt_8 : decode cX8_dueAt 8 = .ok (.imul, 1) := by decide +kernel
theorem dX8_dueAt_9 : decode cX8_dueAt 9 = .ok (.iload_n 2, 1) := by decide +kernel
theorem dX8_dueAt_10 : decode cX8_dueAt 10 = .ok (.iadd, 1) := by decide +kernel
theorem dX8_dueAt_11 : decode cX8_dueAt 11 = .ok (.ireturn, 1) := by decide +kernel
theorem dX8_begins_0 : decode cX8_begins 0 = .ok (.iconst (-1), 1) := by decide +kernel
theorem dX8_begins_1 : decode cX8_begins 1 = .ok (.istore 7, 2) := by decide +kernel
theorem dX8_begins_3 : decode cX8_begins 3 = .ok (.iload_n 1, 1) := by decide +kernel
theorem dX8_begins_4 : decode cX8_begins 4 = .ok (.ifCond .ne 71, 3) := by decide +kernel
theorem dX8_begins_7 : decode cX8_begins 7 = .ok (.aload_n 0, 1) := by decide +kernel
theorem dX8_begins_8 : decode cX8_begins 8 = .ok (.getfield 178, 3) := by decide +kernel
theorem dX8_begins_11 : decode cX8_begins 11 = .ok (.sipush 600, 3) := by decide +kernel
theorem dX8_begins_14 : decode cX8_begins 14 = .ok (.if_icmp .ge 51, 3) := by decide +kernel
theorem dX8_begins_17 : decode cX8_begins 17 = .ok (.aload_n 0, 1) := by decide +kernel
theorem dX8_begins_18 : decode cX8_begins 18 = .ok (.getfield 178, 3) := by decide +kernel
theorem dX8_begins_21 : decode cX8_begins 21 = .ok (.istore 7, 2) := by decide +kernel
theorem dX8_begins_23 : decode cX8_begins 23 = .ok (.aload_n 0, 1) := by decide +kernel
theorem dX8_begins_24 : decode cX8_begins 24 = .ok (.getfield 108, 3) := by decide +kernel
theorem dX8_begins_27 : decode cX8_begins 27 = .ok (.iload 7, 2) := by decide +kernel
theorem dX8_begins_29 : decode cX8_begins 29 = .ok (.iload_n 2, 1) := by decide +kernel
theorem dX8_begins_30 : decode cX8_begins 30 = .ok (.iastore, 1) := by decide +kernel
theorem dX8_begins_31 : decode cX8_begins 31 = .ok (.aload_n 0, 1) := by decide +kernel
theorem dX8_begins_32 : decode cX8_begins 32 = .ok (.getfield 111, 3) := by decide +kernel
theorem dX8_begins_35 : decode cX8_begins 35 = .ok (.iload 7, 2) := by decide +kernel
theorem dX8_begins_37 : decode cX8_begins 37 = .ok (.iload_n 3, 1) := by decide +kernel
theorem dX8_begins_38 : decode cX8_begins 38 = .ok (.iastore, 1) := by decide +kernel
theorem dX8_begins_39 : decode cX8_begins 39 = .ok (.aload_n 0, 1) := by decide +kernel
theorem dX8_begins_40 : decode cX8_begins 40 = .ok (.getfield 114, 3) := by decide +kernel
theorem dX8_begins_43 : decode cX8_begins 43 = .ok (.iload 7, 2) := by decide +kernel
theorem dX8_begins_45 : decode cX8_begins 45 = .ok (.iload 4, 2) := by decide +kernel
theorem dX8_begins_47 : decode cX8_begins 47 = .ok (.iastore, 1) := by decide +kernel
theorem dX8_begins_48 : decode cX8_begins 48 = .ok (.aload_n 0, 1) := by decide +kernel
theorem dX8_begins_49 : decode cX8_begins 49 = .ok (.getfield 117, 3) := by decide +kernel
theorem dX8_begins_52 : decode cX8_begins 52 = .ok (.iload 7, 2) := by decide +kernel
theorem dX8_begins_54 : decode cX8_begins 54 = .ok (.lload 5, 2) := by decide +kernel
theorem dX8_begins_56 : decode cX8_begins 56 = .ok (.lastore, 1) := by decide +kernel
theorem dX8_begins_57 : decode cX8_begins 57 = .ok (.aload_n 0, 1) := by decide +kernel
theorem dX8_begins_58 : decode cX8_begins 58 = .ok (.getfield 120, 3) := by decide +kernel
theorem dX8_begins_61 : decode cX8_begins 61 = .ok (.iload 7, 2) := by decide +kernel
theorem dX8_begins_63 : decode cX8_begins 63 = .ok (.lconst 0, 1) := by decide +kernel
theorem dX8_begins_64 : decode cX8_begins 64 = .ok (.lastore, 1) := by decide +kernel
theorem dX8_begins_65 : decode cX8_begins 65 = .ok (.aload_n 0, 1) := by decide +kernel
theorem dX8_begins_66 : decode cX8_begins 66 = .ok (.aload_n 0, 1) := by decide +kernel
theorem dX8_begins_67 : decode cX8_begins 67 = .ok (.getfield 178, 3) := by decide +kernel
theorem dX8_begins_70 : decode cX8_begins 70 = .ok (.iconst 1, 1) := by decide +kernel
theorem dX8_begins_71 : decode cX8_begins 71 = .ok (.iadd, 1) := by decide +kernel
theorem dX8_begins_72 : decode cX8_begins 72 = .ok (.putfield 178, 3) := by decide +kernel
theorem dX8_begins_75 : decode cX8_begins 75 = .ok (.aload_n 0, 1) := by decide +kernel
theorem dX8_begins_76 : decode cX8_begins 76 = .ok (.getfield 96, 3) := by decide +kernel
theorem dX8_begins_79 : decode cX8_begins 79 = .ok (.aload_n 0, 1) := by decide +kernel
theorem dX8_begins_80 : decode cX8_begins 80 = .ok (.getfield 181, 3) := by decide +kernel
theorem dX8_begins_83 : decode cX8_begins 83 = .ok (.iload_n 3, 1) := by decide +kernel
theorem dX8_begins_84 : decode cX8_begins 84 = .ok (.iastore, 1) := by decide +kernel
theorem dX8_begins_85 : decode cX8_begins 85 = .ok (.aload_n 0, 1) := by decide +kernel
theorem dX8_begins_86 : decode cX8_begins 86 = .ok (.getfield 99, 3) := by decide +kernel
theorem dX8_begins_89 : decode cX8_begins 89 = .ok (.aload_n 0, 1) := by decide +kernel
theorem dX8_begins_90 : decode cX8_begins 90 = .ok (.getfield 181, 3) := by decide +kernel
theorem dX8_begins_93 : decode cX8_begins 93 = .ok (.iload 4, 2) := by decide +kernel
theorem dX8_begins_95 : decode cX8_begins 95 = .ok (.iconst 1, 1) := by decide +kernel
theorem dX8_begins_96 : decode cX8_begins 96 = .ok (.iadd, 1) := by decide +kernel
theorem dX8_begins_97 : decode cX8_begins 97 = .ok (.iastore, 1) := by decide +kernel
theorem dX8_begins_98 : decode cX8_begins 98 = .ok (.aload_n 0, 1) := by decide +kernel
theorem dX8_begins_99 : decode cX8_begins 99 = .ok (.getfield 105, 3) := by decide +kernel
theorem dX8_begins_102 : decode cX8_begins 102 = .ok (.aload_n 0, 1) := by decide +kernel
theorem dX8_begins_103 : decode cX8_begins 103 = .ok (.getfield 181, 3) := by decide +kernel
theorem dX8_begins_106 : decode cX8_begins 106 = .ok (.lload 5, 2) := by decide +kernel
theorem dX8_begins_108 : decode cX8_begins 108 = .ok (.lastore, 1) := by decide +kernel
theorem dX8_begins_109 : decode cX8_begins 109 = .ok (.aload_n 0, 1) := by decide +kernel
theorem dX8_begins_110 : decode cX8_begins 110 = .ok (.getfield 102, 3) := by decide +kernel
theorem dX8_begins_113 : decode cX8_begins 113 = .ok (.aload_n 0, 1) := by decide +kernel
theorem dX8_begins_114 : decode cX8_begins 114 = .ok (.getfield 181, 3) := by decide +kernel
theorem dX8_begins_117 : decode cX8_begins 117 = .ok (.iload 7, 2) := by decide +kernel
theorem dX8_begins_119 : decode cX8_begins 119 = .ok (.iastore, 1) := by decide +kernel
theorem dX8_begins_120 : decode cX8_begins 120 = .ok (.aload_n 0, 1) := by decide +kernel
theorem dX8_begins_121 : decode cX8_begins 121 = .ok (.aload_n 0, 1) := by decide +kernel
theorem dX8_begins_122 : decode cX8_begins 122 = .ok (.getfield 181, 3) := by decide +kernel
theorem dX8_begins_125 : decode cX8_begins 125 = .ok (.iconst 1, 1) := by decide +kernel
theorem dX8_begins_126 : decode cX8_begins 126 = .ok (.iadd, 1) := by decide +kernel
theorem dX8_begins_127 : decode cX8_begins 127 = .ok (.putfield 181, 3) := by decide +kernel
theorem dX8_begins_130 : decode cX8_begins 130 = .ok (.return_, 1) := by decide +kernel
set_option maxRecDepth 20000 in
theorem ggX8_goes_X8_begins : GoodIn wsX8_goes wsX8_begins := goodIn_r _ [17, 18, 19, 20, 21, 22, 9, 6, 1, 3, 5, 8, 40, 41, 42, 43, 44, 45, 46, 47, 48, 49, 50, 51, 52, 53, 54, 55, 56, 57, 58, 59, 60, 61, 62, 63, 64, 65, 66, 67, 68, 69, 70, 71, 72, 73, 74, 75, 76, 77, 78, 79, 80, 81, 82, 83, 84, 85, 86] (by decide +kernel) (by decide +kernel)
set_option maxRecDepth 20000 in
theorem gX8_goes_X8_begins : GoodIn wsX8_goes (wsV RX8 184 RX8 yX8_begins wsX8_begins) := goodIn_app (goodIn_of _ (by decide +kernel)) ggX8_goes_X8_begins
set_option maxRecDepth 20000 in
theorem ggX8_goes_X8_meets : GoodIn wsX8_goes wsX8_meets := goodIn_r _ [26, 5, 27, 28, 29, 30, 31, 32, 33, 34, 35, 36, 37, 38, 16, 39, 13, 14, 15, 17, 18, 19, 20, 21, 22, 9, 6, 1, 3, 8, 40, 41, 42, 43, 44, 45, 46, 47, 48, 49, 50, 51, 52, 53, 54, 55, 56, 57, 58, 59, 60, 61, 62, 63, 64, 65, 66, 67, 68, 69, 70, 71, 72, 73, 74, 75, 76, 77, 78, 79, 80, 81, 82, 83, 84, 85, 86] (by decide +kernel) (by decide +kernel)
set_option maxRecDepth 20000 in
theorem gX8_goes_X8_meets : GoodIn wsX8_goes (wsV RX8 188 RX8 yX8_meets wsX8_meets) := goodIn_app (goodIn_of _ (by decide +kernel)) ggX8_goes_X8_meets
theorem dX8_goes_0 : decode cX8_goes 0 = .ok (.aload_n 0, 1) := by decide +kernel
theorem dX8_goes_1 : decode cX8_goes 1 = .ok (.iconst 0, 1) := by decide +kernel
theorem dX8_goes_2 : decode cX8_goes 2 = .ok (.putfield 181, 3) := by decide +kernel
theorem dX8_goes_5 : decode cX8_goes 5 = .ok (.lload 5, 2) := by decide +kernel
theorem dX8_goes_7 : decode cX8_goes 7 = .ok (.lconst 0, 1) := by decide +kernel
theorem dX8_goes_8 : decode cX8_goes 8 = .ok (.lcmp, 1) := by decide +kernel
theorem dX8_goes_9 : decode cX8_goes 9 = .ok (.ifCond .ne 4, 3) := by decide +kernel
theorem dX8_goes_12 : decode cX8_goes 12 = .ok (.return_, 1) := by decide +kernel
theorem dX8_goes_13 : decode cX8_goes 13 = .ok (.aload_n 0, 1) := by decide +kernel
theorem dX8_goes_14 : decode cX8_goes 14 = .ok (.getfield 93, 3) := by decide +kernel
theorem dX8_goes_17 : decode cX8_goes 17 = .ok (.iload_n 1, 1) := by decide +kernel
theorem dX8_goes_18 : decode cX8_goes 18 = .ok (.aload_n 0, 1) := by decide +kernel
theorem dX8_goes_19 : decode cX8_goes 19 = .ok (.getfield 93, 3) := by decide +kernel
theorem dX8_goes_22 : decode cX8_goes 22 = .ok (.iload_n 1, 1) := by decide +kernel
theorem dX8_goes_23 : decode cX8_goes 23 = .ok (.laload, 1) := by decide +kernel
theorem dX8_goes_24 : decode cX8_goes 24 = .ok (.lload 5, 2) := by decide +kernel
theorem dX8_goes_26 : decode cX8_goes 26 = .ok (.ladd, 1) := by decide +kernel
theorem dX8_goes_27 : decode cX8_goes 27 = .ok (.lastore, 1) := by decide +kernel
theorem dX8_goes_28 : decode cX8_goes 28 = .ok (.aload_n 0, 1) := by decide +kernel
theorem dX8_goes_29 : decode cX8_goes 29 = .ok (.iload_n 1, 1) := by decide +kernel
theorem dX8_goes_30 : decode cX8_goes 30 = .ok (.iload_n 3, 1) := by decide +kernel
theorem dX8_goes_31 : decode cX8_goes 31 = .ok (.iload 4, 2) := by decide +kernel
theorem dX8_goes_33 : decode cX8_goes 33 = .ok (.iconst (-1), 1) := by decide +kernel
theorem dX8_goes_34 : decode cX8_goes 34 = .ok (.lload 5, 2) := by decide +kernel
theorem dX8_goes_36 : decode cX8_goes 36 = .ok (.invokevirtual 184, 3) := by decide +kernel
theorem dX8_goes_39 : decode cX8_goes 39 = .ok (.aload_n 0, 1) := by decide +kernel
theorem dX8_goes_40 : decode cX8_goes 40 = .ok (.getfield 181, 3) := by decide +kernel
theorem dX8_goes_43 : decode cX8_goes 43 = .ok (.ifCond .le 190, 3) := by decide +kernel
theorem dX8_goes_46 : decode cX8_goes 46 = .ok (.aload_n 0, 1) := by decide +kernel
theorem dX8_goes_47 : decode cX8_goes 47 = .ok (.getfield 181, 3) := by decide +kernel
theorem dX8_goes_50 : decode cX8_goes 50 = .ok (.iconst 1, 1) := by decide +kernel
theorem dX8_goes_51 : decode cX8_goes 51 = .ok (.isub, 1) := by decide +kernel
theorem dX8_goes_52 : decode cX8_goes 52 = .ok (.istore 7, 2) := by decide +kernel
theorem dX8_goes_54 : decode cX8_goes 54 = .ok (.aload_n 0, 1) := by decide +kernel
theorem dX8_goes_55 : decode cX8_goes 55 = .ok (.getfield 99, 3) := by decide +kernel
theorem dX8_goes_58 : decode cX8_goes 58 = .ok (.iload 7, 2) := by decide +kernel
theorem dX8_goes_60 : decode cX8_goes 60 = .ok (.iaload, 1) := by decide +kernel
theorem dX8_goes_61 : decode cX8_goes 61 = .ok (.istore 8, 2) := by decide +kernel
theorem dX8_goes_63 : decode cX8_goes 63 = .ok (.iload 8, 2) := by decide +kernel
theorem dX8_goes_65 : decode cX8_goes 65 = .ok (.aload_n 0, 1) := by decide +kernel
theorem dX8_goes_66 : decode cX8_goes 66 = .ok (.getfield 157, 3) := by decide +kernel
theorem dX8_goes_69 : decode cX8_goes 69 = .ok (.if_icmp .eq 15, 3) := by decide +kernel
theorem dX8_goes_72 : decode cX8_goes 72 = .ok (.aload_n 0, 1) := by decide +kernel
theorem dX8_goes_73 : decode cX8_goes 73 = .ok (.getfield 105, 3) := by decide +kernel
theorem dX8_goes_76 : decode cX8_goes 76 = .ok (.iload 7, 2) := by decide +kernel
theorem dX8_goes_78 : decode cX8_goes 78 = .ok (.laload, 1) := by decide +kernel
theorem dX8_goes_79 : decode cX8_goes 79 = .ok (.lconst 0, 1) := by decide +kernel
theorem dX8_goes_80 : decode cX8_goes 80 = .ok (.lcmp, 1) := by decide +kernel
theorem dX8_goes_81 : decode cX8_goes 81 = .ok (.ifCond .ne 78, 3) := by decide +kernel
theorem dX8_goes_84 : decode cX8_goes 84 = .ok (.bipush 12, 2) := by decide +kernel
theorem dX8_goes_86 : decode cX8_goes 86 = .ok (.iload_n 1, 1) := by decide +kernel
theorem dX8_goes_87 : decode cX8_goes 87 = .ok (.imul, 1) := by decide +kernel
theorem dX8_goes_88 : decode cX8_goes 88 = .ok (.aload_n 0, 1) := by decide +kernel
theorem dX8_goes_89 : decode cX8_goes 89 = .ok (.getfield 96, 3) := by decide +kernel
theorem dX8_goes_92 : decode cX8_goes 92 = .ok (.iload 7, 2) := by decide +kernel
theorem dX8_goes_94 : decode cX8_goes 94 = .ok (.iaload, 1) := by decide +kernel
theorem dX8_goes_95 : decode cX8_goes 95 = .ok (.iadd, 1) := by decide +kernel
theorem dX8_goes_96 : decode cX8_goes 96 = .ok (.istore 9, 2) := by decide +kernel
theorem dX8_goes_98 : decode cX8_goes 98 = .ok (.aload_n 0, 1) := by decide +kernel
theorem dX8_goes_99 : decode cX8_goes 99 = .ok (.getfield 71, 3) := by decide +kernel
theorem dX8_goes_102 : decode cX8_goes 102 = .ok (.iload 9, 2) := by decide +kernel
theorem dX8_goes_104 : decode cX8_goes 104 = .ok (.aload_n 0, 1) := by decide +kernel
theorem dX8_goes_105 : decode cX8_goes 105 = .ok (.getfield 71, 3) := by decide +kernel
theorem dX8_goes_108 : decode cX8_goes 108 = .ok (.iload 9, 2) := by decide +kernel
theorem dX8_goes_110 : decode cX8_goes 110 = .ok (.laload, 1) := by decide +kernel
theorem dX8_goes_111 : decode cX8_goes 111 = .ok (.aload_n 0, 1) := by decide +kernel
theorem dX8_goes_112 : decode cX8_goes 112 = .ok (.getfield 105, 3) := by decide +kernel
theorem dX8_goes_115 : decode cX8_goes 115 = .ok (.iload 7, 2) := by decide +kernel
theorem dX8_goes_117 : decode cX8_goes 117 = .ok (.laload, 1) := by decide +kernel
theorem dX8_goes_118 : decode cX8_goes 118 = .ok (.ladd, 1) := by decide +kernel
theorem dX8_goes_119 : decode cX8_goes 119 = .ok (.lastore, 1) := by decide +kernel
theorem dX8_goes_120 : decode cX8_goes 120 = .ok (.aload_n 0, 1) := by decide +kernel
theorem dX8_goes_121 : decode cX8_goes 121 = .ok (.getfield 102, 3) := by decide +kernel
theorem dX8_goes_124 : decode cX8_goes 124 = .ok (.iload 7, 2) := by decide +kernel
theorem dX8_goes_126 : decode cX8_goes 126 = .ok (.iaload, 1) := by decide +kernel
theorem dX8_goes_127 : decode cX8_goes 127 = .ok (.iconst (-1), 1) := by decide +kernel
theorem dX8_goes_128 : decode cX8_goes 128 = .ok (.if_icmp .eq 22, 3) := by decide +kernel
theorem dX8_goes_131 : decode cX8_goes 131 = .ok (.aload_n 0, 1) := by decide +kernel
theorem dX8_goes_132 : decode cX8_goes 132 = .ok (.getfield 120, 3) := by decide +kernel
theorem dX8_goes_135 : decode cX8_goes 135 = .ok (.aload_n 0, 1) := by decide +kernel
theorem dX8_goes_136 : decode cX8_goes 136 = .ok (.getfield 102, 3) := by decide +kernel
theorem dX8_goes_139 : decode cX8_goes 139 = .ok (.iload 7, 2) := by decide +kernel
theorem dX8_goes_141 : decode cX8_goes 141 = .ok (.iaload, 1) := by decide +kernel
theorem dX8_goes_142 : decode cX8_goes 142 = .ok (.aload_n 0, 1) := by decide +kernel
theorem dX8_goes_143 : decode cX8_goes 143 = .ok (.getfield 105, 3) := by decide +kernel
theorem dX8_goes_146 : decode cX8_goes 146 = .ok (.iload 7, 2) := by decide +kernel
theorem dX8_goes_148 : decode cX8_goes 148 = .ok (.laload, 1) := by decide +kernel
theorem dX8_goes_149 : decode cX8_goes 149 = .ok (.lastore, 1) := by decide +kernel
theorem dX8_goes_150 : decode cX8_goes 150 = .ok (.aload_n 0, 1) := by decide +kernel
theorem dX8_goes_151 : decode cX8_goes 151 = .ok (.iload 7, 2) := by decide +kernel
theorem dX8_goes_153 : decode cX8_goes 153 = .ok (.putfield 181, 3) := by decide +kernel
theorem dX8_goes_156 : decode cX8_goes 156 = .ok (.goto 74, 3) := by decide +kernel
theorem dX8_goes_159 : decode cX8_goes 159 = .ok (.aload_n 0, 1) := by decide +kernel
theorem dX8_goes_160 : decode cX8_goes 160 = .ok (.getfield 99, 3) := by decide +kernel
theorem dX8_goes_163 : decode cX8_goes 163 = .ok (.iload 7, 2) := by decide +kernel
theorem dX8_goes_165 : decode cX8_goes 165 = .ok (.iload 8, 2) := by decide +kernel
theorem dX8_goes_167 : decode cX8_goes 167 = .ok (.iconst 1, 1) := by decide +kernel
theorem dX8_goes_168 : decode cX8_goes 168 = .ok (.iadd, 1) := by decide +kernel
theorem dX8_goes_169 : decode cX8_goes 169 = .ok (.iastore, 1) := by decide +kernel
theorem dX8_goes_170 : decode cX8_goes 170 = .ok (.aload_n 0, 1) := by decide +kernel
theorem dX8_goes_171 : decode cX8_goes 171 = .ok (.getfield 25, 3) := by decide +kernel
theorem dX8_goes_174 : decode cX8_goes 174 = .ok (.iload 8, 2) := by decide +kernel
theorem dX8_goes_176 : decode cX8_goes 176 = .ok (.iaload, 1) := by decide +kernel
theorem dX8_goes_177 : decode cX8_goes 177 = .ok (.aload_n 0, 1) := by decide +kernel
theorem dX8_goes_178 : decode cX8_goes 178 = .ok (.getfield 96, 3) := by decide +kernel
theorem dX8_goes_181 : decode cX8_goes 181 = .ok (.iload 7, 2) := by decide +kernel
theorem dX8_goes_183 : decode cX8_goes 183 = .ok (.iaload, 1) := by decide +kernel
theorem dX8_goes_184 : decode cX8_goes 184 = .ok (.if_icmp .ne 46, 3) := by decide +kernel
theorem dX8_goes_187 : decode cX8_goes 187 = .ok (.aload_n 0, 1) := by decide +kernel
theorem dX8_goes_188 : decode cX8_goes 188 = .ok (.getfield 28, 3) := by decide +kernel
theorem dX8_goes_191 : decode cX8_goes 191 = .ok (.iload 8, 2) := by decide +kernel
theorem dX8_goes_193 : decode cX8_goes 193 = .ok (.iaload, 1) := by decide +kernel
theorem dX8_goes_194 : decode cX8_goes 194 = .ok (.iload_n 3, 1) := by decide +kernel
theorem dX8_goes_195 : decode cX8_goes 195 = .ok (.ishr, 1) := by decide +kernel
theorem dX8_goes_196 : decode cX8_goes 196 = .ok (.iconst 1, 1) := by decide +kernel
theorem dX8_goes_197 : decode cX8_goes 197 = .ok (.iand, 1) := by decide +kernel
theorem dX8_goes_198 : decode cX8_goes 198 = .ok (.iconst 1, 1) := by decide +kernel
theorem dX8_goes_199 : decode cX8_goes 199 = .ok (.if_icmp .ne 31, 3) := by decide +kernel
theorem dX8_goes_202 : decode cX8_goes 202 = .ok (.aload_n 0, 1) := by decide +kernel
theorem dX8_goes_203 : decode cX8_goes 203 = .ok (.getfield 31, 3) := by decide +kernel
theorem dX8_goes_206 : decode cX8_goes 206 = .ok (.iload 8, 2) := by decide +kernel
theorem dX8_goes_208 : decode cX8_goes 208 = .ok (.iaload, 1) := by decide +kernel
theorem dX8_goes_209 : decode cX8_goes 209 = .ok (.bipush 90, 2) := by decide +kernel
theorem dX8_goes_211 : decode cX8_goes 211 = .ok (.iload_n 2, 1) := by decide +kernel
theorem dX8_goes_212 : decode cX8_goes 212 = .ok (.imul, 1) := by decide +kernel
theorem dX8_goes_213 : decode cX8_goes 213 = .ok (.bipush 89, 2) := by decide +kernel
theorem dX8_goes_215 : decode cX8_goes 215 = .ok (.iadd, 1) := by decide +kernel
theorem dX8_goes_216 : decode cX8_goes 216 = .ok (.if_icmp .gt 14, 3) := by decide +kernel
theorem dX8_goes_219 : decode cX8_goes 219 = .ok (.aload_n 0, 1) := by decide +kernel
theorem dX8_goes_220 : decode cX8_goes 220 = .ok (.iload_n 1, 1) := by decide +kernel
theorem dX8_goes_221 : decode cX8_goes 221 = .ok (.iload_n 2, 1) := by decide +kernel
theorem dX8_goes_222 : decode cX8_goes 222 = .ok (.iload_n 3, 1) := by decide +kernel
theorem dX8_goes_223 : decode cX8_goes 223 = .ok (.iload 8, 2) := by decide +kernel
theorem dX8_goes_225 : decode cX8_goes 225 = .ok (.iload 7, 2) := by decide +kernel
theorem dX8_goes_227 : decode cX8_goes 227 = .ok (.invokevirtual 188, 3) := by decide +kernel
theorem dX8_goes_230 : decode cX8_goes 230 = .ok (.goto (-191), 3) := by decide +kernel
theorem dX8_goes_233 : decode cX8_goes 233 = .ok (.return_, 1) := by decide +kernel
set_option maxRecDepth 20000 in
theorem ggX8_meets_X8_bag : GoodIn wsX8_meets wsX8_bag := goodIn_r _ [15] (by decide +kernel) (by decide +kernel)
set_option maxRecDepth 20000 in
theorem gX8_meets_X8_bag : GoodIn wsX8_meets (va_wsS RX8 196 yX8_bag wsX8_bag) := goodIn_app (goodIn_of _ (by decide +kernel)) ggX8_meets_X8_bag
set_option maxRecDepth 20000 in
theorem ggX8_meets_X8_begins : GoodIn wsX8_meets wsX8_begins := goodIn_r _ [19, 20, 21, 22, 23, 24, 25, 26, 27, 28, 1, 29, 30, 31, 32, 33, 34, 35, 36, 37, 38, 39, 40, 41, 42, 43, 44, 45, 46, 47, 48, 49, 50, 51, 52, 53, 54, 55, 56, 57, 58, 59, 60, 61, 62, 63, 64, 65, 66, 67, 68, 69, 70, 71, 72, 73, 74, 75, 76] (by decide +kernel) (by decide +kernel)
set_option maxRecDepth 20000 in
theorem gX8_meets_X8_begins : GoodIn wsX8_meets (wsV RX8 184 RX8 yX8_begins wsX8_begins) := goodIn_app (goodIn_of _ (by decide +kernel)) ggX8_meets_X8_begins
theorem dX8_meets_0 : decode cX8_meets 0 = .ok (.bipush 24, 2) := by decide +kernel
theorem dX8_meets_2 : decode cX8_meets 2 = .ok (.iload_n 1, 1) := by decide +kernel
theorem dX8_meets_3 : decode cX8_meets 3 = .ok (.imul, 1) := by decide +kernel
theorem dX8_meets_4 : decode cX8_meets 4 = .ok (.iload 4, 2) := by decide +kernel
theorem dX8_meets_6 : decode cX8_meets 6 = .ok (.iadd, 1) := by decide +kernel
theorem dX8_meets_7 : decode cX8_meets 7 = .ok (.istore 6, 2) := by decide +kernel
theorem dX8_meets_9 : decode cX8_meets 9 = .ok (.aload_n 0, 1) := by decide +kernel
theorem dX8_meets_10 : decode cX8_meets 10 = .ok (.getfield 105, 3) := by decide +kernel
theorem dX8_meets_13 : decode cX8_meets 13 = .ok (.iload 5, 2) := by decide +kernel
theorem dX8_meets_15 : decode cX8_meets 15 = .ok (.laload, 1) := by decide +kernel
theorem dX8_meets_16 : decode cX8_meets 16 = .ok (.lstore 7, 2) := by decide +kernel
theorem dX8_meets_18 : decode cX8_meets 18 = .ok (.lconst 0, 1) := by decide +kernel
theorem dX8_meets_19 : decode cX8_meets 19 = .ok (.lstore 9, 2) := by decide +kernel
theorem dX8_meets_21 : decode cX8_meets 21 = .ok (.aload_n 0, 1) := by decide +kernel
theorem dX8_meets_22 : decode cX8_meets 22 = .ok (.getfield 22, 3) := by decide +kernel
theorem dX8_meets_25 : decode cX8_meets 25 = .ok (.iload 4, 2) := by decide +kernel
theorem dX8_meets_27 : decode cX8_meets 27 = .ok (.iaload, 1) := by decide +kernel
theorem dX8_meets_28 : decode cX8_meets 28 = .ok (.tableswitch 242 0 4 #[36, 153, 242, 63, 195], 36) := by decide +kernel
theorem dX8_meets_64 : decode cX8_meets 64 = .ok (.iload 5, 2) := by decide +kernel
theorem dX8_meets_66 : decode cX8_meets 66 = .ok (.iconst 2, 1) := by decide +kernel
theorem dX8_meets_67 : decode cX8_meets 67 = .ok (.if_icmp .ne 4, 3) := by decide +kernel
theorem dX8_meets_70 : decode cX8_meets 70 = .ok (.return_, 1) := by decide +kernel
theorem dX8_meets_71 : decode cX8_meets 71 = .ok (.lload 7, 2) := by decide +kernel
theorem dX8_meets_73 : decode cX8_meets 73 = .ok (.aload_n 0, 1) := by decide +kernel
theorem dX8_meets_74 : decode cX8_meets 74 = .ok (.getfield 34, 3) := by decide +kernel
theorem dX8_meets_77 : decode cX8_meets 77 = .ok (.iload 4, 2) := by decide +kernel
theorem dX8_meets_79 : decode cX8_meets 79 = .ok (.iaload, 1) := by decide +kernel
theorem dX8_meets_80 : decode cX8_meets 80 = .ok (.i2l, 1) := by decide +kernel
theorem dX8_meets_81 : decode cX8_meets 81 = .ok (.lmul, 1) := by decide +kernel
theorem dX8_meets_82 : decode cX8_meets 82 = .ok (.ldc2_w 192, 3) := by decide +kernel
theorem dX8_meets_85 : decode cX8_meets 85 = .ok (.ldiv, 1) := by decide +kernel
theorem dX8_meets_86 : decode cX8_meets 86 = .ok (.lstore 9, 2) := by decide +kernel
theorem dX8_meets_88 : decode cX8_meets 88 = .ok (.goto 183, 3) := by decide +kernel
theorem dX8_meets_91 : decode cX8_meets 91 = .ok (.iload 5, 2) := by decide +kernel
theorem dX8_meets_93 : decode cX8_meets 93 = .ok (.iconst 2, 1) := by decide +kernel
theorem dX8_meets_94 : decode cX8_meets 94 = .ok (.if_icmp .ne 4, 3) := by decide +kernel
theorem dX8_meets_97 : decode cX8_meets 97 = .ok (.return_, 1) := by decide +kernel
theorem dX8_meets_98 : decode cX8_meets 98 = .ok (.aload_n 0, 1) := by decide +kernel
theorem dX8_meets_99 : decode cX8_meets 99 = .ok (.getfield 37, 3) := by decide +kernel
theorem dX8_meets_102 : decode cX8_meets 102 = .ok (.iload 4, 2) := by decide +kernel
theorem dX8_meets_104 : decode cX8_meets 104 = .ok (.iaload, 1) := by decide +kernel
theorem dX8_meets_105 : decode cX8_meets 105 = .ok (.i2l, 1) := by decide +kernel
theorem dX8_meets_106 : decode cX8_meets 106 = .ok (.ldc2_w 194, 3) := by decide +kernel
theorem dX8_meets_109 : decode cX8_meets 109 = .ok (.lmul, 1) := by decide +kernel
theorem dX8_meets_110 : decode cX8_meets 110 = .ok (.aload_n 0, 1) := by decide +kernel
theorem dX8_meets_111 : decode cX8_meets 111 = .ok (.getfield 81, 3) := by decide +kernel
theorem dX8_meets_114 : decode cX8_meets 114 = .ok (.iload 6, 2) := by decide +kernel
theorem dX8_meets_116 : decode cX8_meets 116 = .ok (.laload, 1) := by decide +kernel
theorem dX8_meets_117 : decode cX8_meets 117 = .ok (.lsub, 1) := by decide +kernel
theorem dX8_meets_118 : decode cX8_meets 118 = .ok (.lstore 11, 2) := by decide +kernel
theorem dX8_meets_120 : decode cX8_meets 120 = .ok (.lload 11, 2) := by decide +kernel
theorem dX8_meets_122 : decode cX8_meets 122 = .ok (.lconst 0, 1) := by decide +kernel
theorem dX8_meets_123 : decode cX8_meets 123 = .ok (.lcmp, 1) := by decide +kernel
theorem dX8_meets_124 : decode cX8_meets 124 = .ok (.ifCond .ge 6, 3) := by decide +kernel
theorem dX8_meets_127 : decode cX8_meets 127 = .ok (.lconst 0, 1) := by decide +kernel
theorem dX8_meets_128 : decode cX8_meets 128 = .ok (.lstore 11, 2) := by decide +kernel
theorem dX8_meets_130 : decode cX8_meets 130 = .ok (.lload 11, 2) := by decide +kernel
theorem dX8_meets_132 : decode cX8_meets 132 = .ok (.lload 7, 2) := by decide +kernel
theorem dX8_meets_134 : decode cX8_meets 134 = .ok (.lcmp, 1) := by decide +kernel
theorem dX8_meets_135 : decode cX8_meets 135 = .ok (.ifCond .le 7, 3) := by decide +kernel
theorem dX8_meets_138 : decode cX8_meets 138 = .ok (.lload 7, 2) := by decide +kernel
theorem dX8_meets_140 : decode cX8_meets 140 = .ok (.lstore 11, 2) := by decide +kernel
theorem dX8_meets_142 : decode cX8_meets 142 = .ok (.lload 11, 2) := by decide +kernel
theorem dX8_meets_144 : decode cX8_meets 144 = .ok (.aload_n 0, 1) := by decide +kernel
theorem dX8_meets_145 : decode cX8_meets 145 = .ok (.getfield 34, 3) := by decide +kernel
theorem dX8_meets_148 : decode cX8_meets 148 = .ok (.iload 4, 2) := by decide +kernel
theorem dX8_meets_150 : decode cX8_meets 150 = .ok (.iaload, 1) := by decide +kernel
theorem dX8_meets_151 : decode cX8_meets 151 = .ok (.i2l, 1) := by decide +kernel
theorem dX8_meets_152 : decode cX8_meets 152 = .ok (.lmul, 1) := by decide +kernel
theorem dX8_meets_153 : decode cX8_meets 153 = .ok (.ldc2_w 192, 3) := by decide +kernel
theorem dX8_meets_156 : decode cX8_meets 156 = .ok (.ldiv, 1) := by decide +kernel
theorem dX8_meets_157 : decode cX8_meets 157 = .ok (.lload 7, 2) := by decide +kernel
theorem dX8_meets_159 : decode cX8_meets 159 = .ok (.lload 11, 2) := by decide +kernel
theorem dX8_meets_161 : decode cX8_meets 161 = .ok (.lsub, 1) := by decide +kernel
theorem dX8_meets_162 : decode cX8_meets 162 = .ok (.aload_n 0, 1) := by decide +kernel
theorem dX8_meets_163 : decode cX8_meets 163 = .ok (.getfield 40, 3) := by decide +kernel
theorem dX8_meets_166 : decode cX8_meets 166 = .ok (.iload 4, 2) := by decide +kernel
theorem dX8_meets_168 : decode cX8_meets 168 = .ok (.iaload, 1) := by decide +kernel
theorem dX8_meets_169 : decode cX8_meets 169 = .ok (.i2l, 1) := by decide +kernel
theorem dX8_meets_170 : decode cX8_meets 170 = .ok (.lmul, 1) := by decide +kernel
theorem dX8_meets_171 : decode cX8_meets 171 = .ok (.ldc2_w 192, 3) := by decide +kernel
theorem dX8_meets_174 : decode cX8_meets 174 = .ok (.ldiv, 1) := by decide +kernel
theorem dX8_meets_175 : decode cX8_meets 175 = .ok (.ladd, 1) := by decide +kernel
theorem dX8_meets_176 : decode cX8_meets 176 = .ok (.lstore 9, 2) := by decide +kernel
theorem dX8_meets_178 : decode cX8_meets 178 = .ok (.goto 93, 3) := by decide +kernel
theorem dX8_meets_181 : decode cX8_meets 181 = .ok (.aload_n 0, 1) := by decide +kernel
theorem dX8_meets_182 : decode cX8_meets 182 = .ok (.getfield 34, 3) := by decide +kernel
theorem dX8_meets_185 : decode cX8_meets 185 = .ok (.iload 4, 2) := by decide +kernel
theorem dX8_meets_187 : decode cX8_meets 187 = .ok (.iaload, 1) := by decide +kernel
theorem dX8_meets_188 : decode cX8_meets 188 = .ok (.i2l, 1) := by decide +kernel
theorem dX8_meets_189 : decode cX8_meets 189 = .ok (.ldc2_w 194, 3) := by decide +kernel
theorem dX8_meets_192 : decode cX8_meets 192 = .ok (.lmul, 1) := by decide +kernel
theorem dX8_meets_193 : decode cX8_meets 193 = .ok (.aload_n 0, 1) := by decide +kernel
theorem dX8_meets_194 : decode cX8_meets 194 = .ok (.getfield 78, 3) := by decide +kernel
theorem dX8_meets_197 : decode cX8_meets 197 = .ok (.iload 6, 2) := by decide +kernel
theorem dX8_meets_199 : decode cX8_meets 199 = .ok (.laload, 1) := by decide +kernel
theorem dX8_meets_200 : decode cX8_meets 200 = .ok (.lsub, 1) := by decide +kernel
theorem dX8_meets_201 : decode cX8_meets 201 = .ok (.lstore 11, 2) := by decide +kernel
theorem dX8_meets_203 : decode cX8_meets 203 = .ok (.lload 7, 2) := by decide +kernel
theorem dX8_meets_205 : decode cX8_meets 205 = .ok (.lload 11, 2) := by decide +kernel
theorem dX8_meets_207 : decode cX8_meets 207 = .ok (.lcmp, 1) := by decide +kernel
theorem dX8_meets_208 : decode cX8_meets 208 = .ok (.ifCond .ge 8, 3) := by decide +kernel
theorem dX8_meets_211 : decode cX8_meets 211 = .ok (.lload 7, 2) := by decide +kernel
theorem dX8_meets_213 : decode cX8_meets 213 = .ok (.goto 5, 3) := by decide +kernel
theorem dX8_meets_216 : decode cX8_meets 216 = .ok (.lload 11, 2) := by decide +kernel
theorem dX8_meets_218 : decode cX8_meets 218 = .ok (.lstore 9, 2) := by decide +kernel
theorem dX8_meets_220 : decode cX8_meets 220 = .ok (.goto 51, 3) := by decide +kernel
theorem dX8_meets_223 : decode cX8_meets 223 = .ok (.lload 7, 2) := by decide +kernel
theorem dX8_meets_225 : decode cX8_meets 225 = .ok (.aload_n 0, 1) := by decide +kernel
theorem dX8_meets_226 : decode cX8_meets 226 = .ok (.getfield 34, 3) := by decide +kernel
theorem dX8_meets_229 : decode cX8_meets 229 = .ok (.iload 4, 2) := by decide +kernel
theorem dX8_meets_231 : decode cX8_meets 231 = .ok (.iaload, 1) := by decide +kernel
theorem dX8_meets_232 : decode cX8_meets 232 = .ok (.i2l, 1) := by decide +kernel
theorem dX8_meets_233 : decode cX8_meets 233 = .ok (.lmul, 1) := by decide +kernel
theorem dX8_meets_234 : decode cX8_meets 234 = .ok (.ldc2_w 192, 3) := by decide +kernel
theorem dX8_meets_237 : decode cX8_meets 237 = .ok (.ldiv, 1) := by decide +kernel
theorem dX8_meets_238 : decode cX8_meets 238 = .ok (.lstore 9, 2) := by decide +kernel
theorem dX8_meets_240 : decode cX8_meets 240 = .ok (.aload_n 0, 1) := by decide +kernel
theorem dX8_meets_241 : decode cX8_meets 241 = .ok (.getfield 84, 3) := by decide +kernel
theorem dX8_meets_244 : decode cX8_meets 244 = .ok (.iload_n 1, 1) := by decide +kernel
theorem dX8_meets_245 : decode cX8_meets 245 = .ok (.iload 4, 2) := by decide +kernel
theorem dX8_meets_247 : decode cX8_meets 247 = .ok (.iload_n 2, 1) := by decide +kernel
theorem dX8_meets_248 : decode cX8_meets 248 = .ok (.invokestatic 196, 3) := by decide +kernel
theorem dX8_meets_251 : decode cX8_meets 251 = .ok (.aload_n 0, 1) := by decide +kernel
theorem dX8_meets_252 : decode cX8_meets 252 = .ok (.getfield 84, 3) := by decide +kernel
theorem dX8_meets_255 : decode cX8_meets 255 = .ok (.iload_n 1, 1) := by decide +kernel
theorem dX8_meets_256 : decode cX8_meets 256 = .ok (.iload 4, 2) := by decide +kernel
theorem dX8_meets_258 : decode cX8_meets 258 = .ok (.iload_n 2, 1) := by decide +kernel
theorem dX8_meets_259 : decode cX8_meets 259 = .ok (.invokestatic 196, 3) := by decide +kernel
theorem dX8_meets_262 : decode cX8_meets 262 = .ok (.laload, 1) := by decide +kernel
theorem dX8_meets_263 : decode cX8_meets 263 = .ok (.lload 9, 2) := by decide +kernel
theorem dX8_meets_265 : decode cX8_meets 265 = .ok (.ladd, 1) := by decide +kernel
theorem dX8_meets_266 : decode cX8_meets 266 = .ok (.lastore, 1) := by decide +kernel
theorem dX8_meets_267 : decode cX8_meets 267 = .ok (.goto 4, 3) := by decide +kernel
theorem dX8_meets_270 : decode cX8_meets 270 = .ok (.return_, 1) := by decide +kernel
theorem dX8_meets_271 : decode cX8_meets 271 = .ok (.aload_n 0, 1) := by decide +kernel
theorem dX8_meets_272 : decode cX8_meets 272 = .ok (.getfield 81, 3) := by decide +kernel
theorem dX8_meets_275 : decode cX8_meets 275 = .ok (.iload 6, 2) := by decide +kernel
theorem dX8_meets_277 : decode cX8_meets 277 = .ok (.aload_n 0, 1) := by decide +kernel
theorem dX8_meets_278 : decode cX8_meets 278 = .ok (.getfield 81, 3) := by decide +kernel
theorem dX8_meets_281 : decode cX8_meets 281 = .ok (.iload 6, 2) := by decide +kernel
theorem dX8_meets_283 : decode cX8_meets 283 = .ok (.laload, 1) := by decide +kernel
theorem dX8_meets_284 : decode cX8_meets 284 = .ok (.lload 7, 2) := by decide +kernel
theorem dX8_meets_286 : decode cX8_meets 286 = .ok (.ladd, 1) := by decide +kernel
theorem dX8_meets_287 : decode cX8_meets 287 = .ok (.lastore, 1) := by decide +kernel
theorem dX8_meets_288 : decode cX8_meets 288 = .ok (.aload_n 0, 1) := by decide +kernel
theorem dX8_meets_289 : decode cX8_meets 289 = .ok (.getfield 78, 3) := by decide +kernel
theorem dX8_meets_292 : decode cX8_meets 292 = .ok (.iload 6, 2) := by decide +kernel
theorem dX8_meets_294 : decode cX8_meets 294 = .ok (.aload_n 0, 1) := by decide +kernel
theorem dX8_meets_295 : decode cX8_meets 295 = .ok (.getfield 78, 3) := by decide +kernel
theorem dX8_meets_298 : decode cX8_meets 298 = .ok (.iload 6, 2) := by decide +kernel
theorem dX8_meets_300 : decode cX8_meets 300 = .ok (.laload, 1) := by decide +kernel
theorem dX8_meets_301 : decode cX8_meets 301 = .ok (.lload 9, 2) := by decide +kernel
theorem dX8_meets_303 : decode cX8_meets 303 = .ok (.ladd, 1) := by decide +kernel
theorem dX8_meets_304 : decode cX8_meets 304 = .ok (.lastore, 1) := by decide +kernel
theorem dX8_meets_305 : decode cX8_meets 305 = .ok (.aload_n 0, 1) := by decide +kernel
theorem dX8_meets_306 : decode cX8_meets 306 = .ok (.getfield 105, 3) := by decide +kernel
theorem dX8_meets_309 : decode cX8_meets 309 = .ok (.iload 5, 2) := by decide +kernel
theorem dX8_meets_311 : decode cX8_meets 311 = .ok (.lload 7, 2) := by decide +kernel
theorem dX8_meets_313 : decode cX8_meets 313 = .ok (.lload 9, 2) := by decide +kernel
theorem dX8_meets_315 : decode cX8_meets 315 = .ok (.lsub, 1) := by decide +kernel
theorem dX8_meets_316 : decode cX8_meets 316 = .ok (.lastore, 1) := by decide +kernel
theorem dX8_meets_317 : decode cX8_meets 317 = .ok (.aload_n 0, 1) := by decide +kernel
theorem dX8_meets_318 : decode cX8_meets 318 = .ok (.getfield 22, 3) := by decide +kernel
theorem dX8_meets_321 : decode cX8_meets 321 = .ok (.iload 4, 2) := by decide +kernel
theorem dX8_meets_323 : decode cX8_meets 323 = .ok (.iaload, 1) := by decide +kernel
theorem dX8_meets_324 : decode cX8_meets 324 = .ok (.ifCond .eq 14, 3) := by decide +kernel
theorem dX8_meets_327 : decode cX8_meets 327 = .ok (.aload_n 0, 1) := by decide +kernel
theorem dX8_meets_328 : decode cX8_meets 328 = .ok (.getfield 22, 3) := by decide +kernel
theorem dX8_meets_331 : decode cX8_meets 331 = .ok (.iload 4, 2) := by decide +kernel
theorem dX8_meets_333 : decode cX8_meets 333 = .ok (.iaload, 1) := by decide +kernel
theorem dX8_meets_334 : decode cX8_meets 334 = .ok (.iconst 3, 1) := by decide +kernel
theorem dX8_meets_335 : decode cX8_meets 335 = .ok (.if_icmp .ne 27, 3) := by decide +kernel
theorem dX8_meets_338 : decode cX8_meets 338 = .ok (.lload 9, 2) := by decide +kernel
theorem dX8_meets_340 : decode cX8_meets 340 = .ok (.lconst 0, 1) := by decide +kernel
theorem dX8_meets_341 : decode cX8_meets 341 = .ok (.lcmp, 1) := by decide +kernel
theorem dX8_meets_342 : decode cX8_meets 342 = .ok (.ifCond .le 20, 3) := by decide +kernel
theorem dX8_meets_345 : decode cX8_meets 345 = .ok (.aload_n 0, 1) := by decide +kernel
theorem dX8_meets_346 : decode cX8_meets 346 = .ok (.iload_n 1, 1) := by decide +kernel
theorem dX8_meets_347 : decode cX8_meets 347 = .ok (.iload_n 3, 1) := by decide +kernel
theorem dX8_meets_348 : decode cX8_meets 348 = .ok (.aload_n 0, 1) := by decide +kernel
theorem dX8_meets_349 : decode cX8_meets 349 = .ok (.getfield 43, 3) := by decide +kernel
theorem dX8_meets_352 : decode cX8_meets 352 = .ok (.iload 4, 2) := by decide +kernel
theorem dX8_meets_354 : decode cX8_meets 354 = .ok (.iaload, 1) := by decide +kernel
theorem dX8_meets_355 : decode cX8_meets 355 = .ok (.iload 4, 2) := by decide +kernel
theorem dX8_meets_357 : decode cX8_meets 357 = .ok (.lload 9, 2) := by decide +kernel
theorem dX8_meets_359 : decode cX8_meets 359 = .ok (.invokevirtual 184, 3) := by decide +kernel
theorem dX8_meets_362 : decode cX8_meets 362 = .ok (.return_, 1) := by decide +kernel
set_option maxRecDepth 20000 in
theorem ggX8_comes_X8_setOn : GoodIn wsX8_comes wsX8_setOn := goodIn_r _ [8, 9, 10, 52, 53, 54, 55, 56, 57, 58, 59, 60, 61, 62, 63, 64, 65, 66, 67, 68, 69, 70, 71, 72, 73, 74, 75, 76, 77, 78, 79, 80, 81, 82, 83, 84, 85, 86, 87, 88, 89, 90, 91, 92, 93, 94, 95, 96, 97, 98] (by decide +kernel) (by decide +kernel)
set_option maxRecDepth 20000 in
theorem gX8_comes_X8_setOn : GoodIn wsX8_comes (wsV RX8 200 RX8 yX8_setOn wsX8_setOn) := goodIn_app (goodIn_of _ (by decide +kernel)) ggX8_comes_X8_setOn
set_option maxRecDepth 20000 in
theorem ggX8_comes_X8_goes : GoodIn wsX8_comes wsX8_goes := goodIn_r _ [14, 15, 16, 17, 18, 19, 20, 21, 22, 23, 24, 25, 26, 27, 28, 29, 7, 30, 31, 32, 33, 34, 35, 36, 37, 38, 39, 40, 41, 3, 42, 43, 44, 45, 46, 47, 48, 49, 50, 51, 52, 53, 54, 55, 56, 57, 58, 59, 60, 61, 62, 63, 64, 65, 66, 67, 68, 69, 70, 71, 72, 73, 74, 75, 76, 77, 78, 79, 80, 81, 82, 83, 84, 85, 86, 87, 88, 89, 90, 91, 92, 93, 94, 95, 96, 97, 98] (by decide +kernel) (by decide +kernel)
set_option maxRecDepth 20000 in
theorem gX8_comes_X8_goes : GoodIn wsX8_comes (wsV RX8 204 RX8 yX8_goes wsX8_goes) := goodIn_app (goodIn_of _ (by decide +kernel)) ggX8_comes_X8_goes
theorem dX8_comes_0 : decode cX8_comes 0 = .ok (.aload_n 0, 1) := by decide +kernel
theorem dX8_comes_1 : decode cX8_comes 1 = .ok (.iload_n 3, 1) := by decide +kernel
theorem dX8_comes_2 : decode cX8_comes 2 = .ok (.iload 5, 2) := by decide +kernel
theorem dX8_comes_4 : decode cX8_comes 4 = .ok (.invokevirtual 200, 3) := by decide +kernel
theorem dX8_comes_7 : decode cX8_comes 7 = .ok (.istore 6, 2) := by decide +kernel
theorem dX8_comes_9 : decode cX8_comes 9 = .ok (.iconst 0, 1) := by decide +kernel
theorem dX8_comes_10 : decode cX8_comes 10 = .ok (.istore 7, 2) := by decide +kernel
theorem dX8_comes_12 : decode cX8_comes 12 = .ok (.iload 7, 2) := by decide +kernel
theorem dX8_comes_14 : decode cX8_comes 14 = .ok (.iconst 3, 1) := by decide +kernel
theorem dX8_comes_15 : decode cX8_comes 15 = .ok (.if_icmp .ge 59, 3) := by decide +kernel
theorem dX8_comes_18 : decode cX8_comes 18 = .ok (.aload_n 0, 1) := by decide +kernel
theorem dX8_comes_19 : decode cX8_comes 19 = .ok (.getfield 16, 3) := by decide +kernel
theorem dX8_comes_22 : decode cX8_comes 22 = .ok (.iconst 3, 1) := by decide +kernel
theorem dX8_comes_23 : decode cX8_comes 23 = .ok (.iload 6, 2) := by decide +kernel
theorem dX8_comes_25 : decode cX8_comes 25 = .ok (.imul, 1) := by decide +kernel
theorem dX8_comes_26 : decode cX8_comes 26 = .ok (.iload 7, 2) := by decide +kernel
theorem dX8_comes_28 : decode cX8_comes 28 = .ok (.iadd, 1) := by decide +kernel
theorem dX8_comes_29 : decode cX8_comes 29 = .ok (.iaload, 1) := by decide +kernel
theorem dX8_comes_30 : decode cX8_comes 30 = .ok (.istore 8, 2) := by decide +kernel
theorem dX8_comes_32 : decode cX8_comes 32 = .ok (.iload 8, 2) := by decide +kernel
theorem dX8_comes_34 : decode cX8_comes 34 = .ok (.iconst (-1), 1) := by decide +kernel
theorem dX8_comes_35 : decode cX8_comes 35 = .ok (.if_icmp .eq 33, 3) := by decide +kernel
theorem dX8_comes_38 : decode cX8_comes 38 = .ok (.aload_n 0, 1) := by decide +kernel
theorem dX8_comes_39 : decode cX8_comes 39 = .ok (.iload_n 1, 1) := by decide +kernel
theorem dX8_comes_40 : decode cX8_comes 40 = .ok (.iload_n 2, 1) := by decide +kernel
theorem dX8_comes_41 : decode cX8_comes 41 = .ok (.iload_n 3, 1) := by decide +kernel
theorem dX8_comes_42 : decode cX8_comes 42 = .ok (.iload 8, 2) := by decide +kernel
theorem dX8_comes_44 : decode cX8_comes 44 = .ok (.iload 4, 2) := by decide +kernel
theorem dX8_comes_46 : decode cX8_comes 46 = .ok (.i2l, 1) := by decide +kernel
theorem dX8_comes_47 : decode cX8_comes 47 = .ok (.aload_n 0, 1) := by decide +kernel
theorem dX8_comes_48 : decode cX8_comes 48 = .ok (.getfield 19, 3) := by decide +kernel
theorem dX8_comes_51 : decode cX8_comes 51 = .ok (.iconst 3, 1) := by decide +kernel
theorem dX8_comes_52 : decode cX8_comes 52 = .ok (.iload 6, 2) := by decide +kernel
theorem dX8_comes_54 : decode cX8_comes 54 = .ok (.imul, 1) := by decide +kernel
theorem dX8_comes_55 : decode cX8_comes 55 = .ok (.iload 7, 2) := by decide +kernel
theorem dX8_comes_57 : decode cX8_comes 57 = .ok (.iadd, 1) := by decide +kernel
theorem dX8_comes_58 : decode cX8_comes 58 = .ok (.iaload, 1) := by decide +kernel
theorem dX8_comes_59 : decode cX8_comes 59 = .ok (.i2l, 1) := by decide +kernel
theorem dX8_comes_60 : decode cX8_comes 60 = .ok (.lmul, 1) := by decide +kernel
theorem dX8_comes_61 : decode cX8_comes 61 = .ok (.ldc2_w 192, 3) := by decide +kernel
theorem dX8_comes_64 : decode cX8_comes 64 = .ok (.lmul, 1) := by decide +kernel
theorem dX8_comes_65 : decode cX8_comes 65 = .ok (.invokevirtual 204, 3) := by decide +kernel
theorem dX8_comes_68 : decode cX8_comes 68 = .ok (.iinc 7 1, 3) := by decide +kernel
theorem dX8_comes_71 : decode cX8_comes 71 = .ok (.goto (-59), 3) := by decide +kernel
theorem dX8_comes_74 : decode cX8_comes 74 = .ok (.return_, 1) := by decide +kernel
set_option maxRecDepth 20000 in
theorem ggX8_closes_X8_isOpen : GoodIn wsX8_closes wsX8_isOpen := goodIn_r _ [18, 19, 20, 82, 83, 84, 85, 86, 87, 88, 89, 90, 91, 92, 93, 94, 95, 96, 97, 98, 99, 100, 101, 102, 103, 104, 105, 106, 107, 108, 109, 110, 111, 112, 113, 114, 115, 116, 117, 118, 119, 120, 121, 122, 123, 124, 125, 126, 127, 128] (by decide +kernel) (by decide +kernel)
set_option maxRecDepth 20000 in
theorem gX8_closes_X8_isOpen : GoodIn wsX8_closes (wsV RX8 175 RX8 yX8_isOpen wsX8_isOpen) := goodIn_app (goodIn_of _ (by decide +kernel)) ggX8_closes_X8_isOpen
set_option maxRecDepth 20000 in
theorem ggX8_closes_X8_comes : GoodIn wsX8_closes wsX8_comes := goodIn_r _ [24, 25, 26, 27, 28, 29, 30, 17, 31, 32, 33, 34, 35, 36, 37, 38, 39, 40, 7, 41, 42, 11, 43, 44, 10, 45, 13, 46, 47, 48, 49, 50, 51, 52, 53, 54, 55, 56, 57, 58, 8, 59, 9, 60, 61, 62, 63, 12, 64, 65, 66, 67, 82, 83, 84, 85, 86, 87, 88, 89, 90, 91, 92, 93, 94, 95, 96, 97, 98, 99, 100, 101, 102, 103, 104, 105, 106, 107, 108, 109, 110, 111, 112, 113, 114, 115, 116, 117, 118, 119, 120, 121, 122, 123, 124, 125, 126, 127, 128] (by decide +kernel) (by decide +kernel)
set_option maxRecDepth 20000 in
theorem gX8_closes_X8_comes : GoodIn wsX8_closes (wsV RX8 207 RX8 yX8_comes wsX8_comes) := goodIn_app (goodIn_of _ (by decide +kernel)) ggX8_closes_X8_comes
set_option maxRecDepth 20000 in
theorem ggX8_closes_X8_bag : GoodIn wsX8_closes wsX8_bag := goodIn_r _ [67] (by decide +kernel) (by decide +kernel)
set_option maxRecDepth 20000 in
theorem gX8_closes_X8_bag : GoodIn wsX8_closes (va_wsS RX8 196 yX8_bag wsX8_bag) := goodIn_app (goodIn_of _ (by decide +kernel)) ggX8_closes_X8_bag
set_option maxRecDepth 20000 in
theorem ggX8_closes_X8_pays : GoodIn wsX8_closes wsX8_pays := goodIn_r _ [71, 72, 11, 60, 73, 74, 75, 17, 76, 82, 83, 84, 85, 86, 87, 88, 89, 90, 91, 92, 93, 94, 95, 96, 97, 98, 99, 100, 101, 102, 103, 104, 105, 106, 107, 108, 109, 110, 111, 112, 113, 114, 115, 116, 117, 118, 119, 120, 121, 122, 123, 124, 125, 126, 127, 128] (by decide +kernel) (by decide +kernel)
set_option maxRecDepth 20000 in
theorem gX8_closes_X8_pays : GoodIn wsX8_closes (wsV RX8 210 RX8 yX8_pays wsX8_pays) := goodIn_app (goodIn_of _ (by decide +kernel)) ggX8_closes_X8_pays
set_option maxRecDepth 20000 in
theorem ggX8_closes_X8_fills : GoodIn wsX8_closes wsX8_fills := goodIn_r _ [80, 10, 73, 59, 81, 74, 75, 17, 76, 82, 83, 84, 85, 86, 87, 88, 89, 90, 91, 92, 93, 94, 95, 96, 97, 98, 99, 100, 101, 102, 103, 104, 105, 106, 107, 108, 109, 110, 111, 112, 113, 114, 115, 116, 117, 118, 119, 120, 121, 122, 123, 124, 125, 126, 127, 128] (by decide +kernel) (by decide +kernel)
set_option maxRecDepth 20000 in
theorem gX8_closes_X8_fills : GoodIn wsX8_closes (wsV RX8 214 RX8 yX8_fills wsX8_fills) := goodIn_app (goodIn_of _ (by decide +kernel)) ggX8_closes_X8_fills
theorem dX8_closes_0 : decode cX8_closes 0 = .ok (.iconst 0, 1) := by decide +kernel
theorem dX8_closes_1 : decode cX8_closes 1 = .ok (.istore_n 3, 1) := by decide +kernel
theorem dX8_closes_2 : decode cX8_closes 2 = .ok (.iload_n 3, 1) := by decide +kernel
theorem dX8_closes_3 : decode cX8_closes 3 = .ok (.aload_n 0, 1) := by decide +kernel
theorem dX8_closes_4 : decode cX8_closes 4 = .ok (.getfield 61, 3) := by decide +kernel
theorem dX8_closes_7 : decode cX8_closes 7 = .ok (.iload_n 2, 1) := by decide +kernel
theorem dX8_closes_8 : decode cX8_closes 8 = .ok (.iaload, 1) := by decide +kernel
theorem dX8_closes_9 : decode cX8_closes 9 = .ok (.if_icmp .ge 146, 3) := by decide +kernel
theorem dX8_closes_12 : decode cX8_closes 12 = .ok (.aload_n 0, 1) := by decide +kernel
theorem dX8_closes_13 : decode cX8_closes 13 = .ok (.getfield 58, 3) := by decide +kernel
theorem dX8_closes_16 : decode cX8_closes 16 = .ok (.bipush 12, 2) := by decide +kernel
theorem dX8_closes_18 : decode cX8_closes 18 = .ok (.iload_n 2, 1) := by decide +kernel
theorem dX8_closes_19 : decode cX8_closes 19 = .ok (.imul, 1) := by decide +kernel
theorem dX8_closes_20 : decode cX8_closes 20 = .ok (.iload_n 3, 1) := by decide +kernel
theorem dX8_closes_21 : decode cX8_closes 21 = .ok (.iadd, 1) := by decide +kernel
theorem dX8_closes_22 : decode cX8_closes 22 = .ok (.iaload, 1) := by decide +kernel
theorem dX8_closes_23 : decode cX8_closes 23 = .ok (.istore 4, 2) := by decide +kernel
theorem dX8_closes_25 : decode cX8_closes 25 = .ok (.bipush 12, 2) := by decide +kernel
theorem dX8_closes_27 : decode cX8_closes 27 = .ok (.iload_n 2, 1) := by decide +kernel
theorem dX8_closes_28 : decode cX8_closes 28 = .ok (.imul, 1) := by decide +kernel
theorem dX8_closes_29 : decode cX8_closes 29 = .ok (.iload 4, 2) := by decide +kernel
theorem dX8_closes_31 : decode cX8_closes 31 = .ok (.iadd, 1) := by decide +kernel
theorem dX8_closes_32 : decode cX8_closes 32 = .ok (.istore 5, 2) := by decide +kernel
theorem dX8_closes_34 : decode cX8_closes 34 = .ok (.aload_n 0, 1) := by decide +kernel
theorem dX8_closes_35 : decode cX8_closes 35 = .ok (.iload_n 2, 1) := by decide +kernel
theorem dX8_closes_36 : decode cX8_closes 36 = .ok (.iload 4, 2) := by decide +kernel
theorem dX8_closes_38 : decode cX8_closes 38 = .ok (.invokevirtual 175, 3) := by decide +kernel
theorem dX8_closes_41 : decode cX8_closes 41 = .ok (.ifCond .eq 6, 3) := by decide +kernel
theorem dX8_closes_44 : decode cX8_closes 44 = .ok (.goto 105, 3) := by decide +kernel
theorem dX8_closes_47 : decode cX8_closes 47 = .ok (.aload_n 0, 1) := by decide +kernel
theorem dX8_closes_48 : decode cX8_closes 48 = .ok (.getfield 55, 3) := by decide +kernel
theorem dX8_closes_51 : decode cX8_closes 51 = .ok (.iload 5, 2) := by decide +kernel
theorem dX8_closes_53 : decode cX8_closes 53 = .ok (.iaload, 1) := by decide +kernel
theorem dX8_closes_54 : decode cX8_closes 54 = .ok (.iconst 2, 1) := by decide +kernel
theorem dX8_closes_55 : decode cX8_closes 55 = .ok (.if_icmp .ne 72, 3) := by decide +kernel
theorem dX8_closes_58 : decode cX8_closes 58 = .ok (.aload_n 0, 1) := by decide +kernel
theorem dX8_closes_59 : decode cX8_closes 59 = .ok (.iload_n 1, 1) := by decide +kernel
theorem dX8_closes_60 : decode cX8_closes 60 = .ok (.iload_n 2, 1) := by decide +kernel
theorem dX8_closes_61 : decode cX8_closes 61 = .ok (.iload 4, 2) := by decide +kernel
theorem dX8_closes_63 : decode cX8_closes 63 = .ok (.aload_n 0, 1) := by decide +kernel
theorem dX8_closes_64 : decode cX8_closes 64 = .ok (.getfield 46, 3) := by decide +kernel
theorem dX8_closes_67 : decode cX8_closes 67 = .ok (.iload 5, 2) := by decide +kernel
theorem dX8_closes_69 : decode cX8_closes 69 = .ok (.iaload, 1) := by decide +kernel
theorem dX8_closes_70 : decode cX8_closes 70 = .ok (.bipush 90, 2) := by decide +kernel
theorem dX8_closes_72 : decode cX8_closes 72 = .ok (.iload_n 2, 1) := by decide +kernel
theorem dX8_closes_73 : decode cX8_closes 73 = .ok (.imul, 1) := by decide +kernel
theorem dX8_closes_74 : decode cX8_closes 74 = .ok (.bipush 29, 2) := by decide +kernel
theorem dX8_closes_76 : decode cX8_closes 76 = .ok (.iadd, 1) := by decide +kernel
theorem dX8_closes_77 : decode cX8_closes 77 = .ok (.invokevirtual 207, 3) := by decide +kernel
theorem dX8_closes_80 : decode cX8_closes 80 = .ok (.aload_n 0, 1) := by decide +kernel
theorem dX8_closes_81 : decode cX8_closes 81 = .ok (.iload_n 1, 1) := by decide +kernel
theorem dX8_closes_82 : decode cX8_closes 82 = .ok (.iload_n 2, 1) := by decide +kernel
theorem dX8_closes_83 : decode cX8_closes 83 = .ok (.iload 4, 2) := by decide +kernel
theorem dX8_closes_85 : decode cX8_closes 85 = .ok (.aload_n 0, 1) := by decide +kernel
theorem dX8_closes_86 : decode cX8_closes 86 = .ok (.getfield 49, 3) := by decide +kernel
theorem dX8_closes_89 : decode cX8_closes 89 = .ok (.iload 5, 2) := by decide +kernel
theorem dX8_closes_91 : decode cX8_closes 91 = .ok (.iaload, 1) := by decide +kernel
theorem dX8_closes_92 : decode cX8_closes 92 = .ok (.bipush 90, 2) := by decide +kernel
theorem dX8_closes_94 : decode cX8_closes 94 = .ok (.iload_n 2, 1) := by decide +kernel
theorem dX8_closes_95 : decode cX8_closes 95 = .ok (.imul, 1) := by decide +kernel
theorem dX8_closes_96 : decode cX8_closes 96 = .ok (.bipush 59, 2) := by decide +kernel
theorem dX8_closes_98 : decode cX8_closes 98 = .ok (.iadd, 1) := by decide +kernel
theorem dX8_closes_99 : decode cX8_closes 99 = .ok (.invokevirtual 207, 3) := by decide +kernel
theorem dX8_closes_102 : decode cX8_closes 102 = .ok (.aload_n 0, 1) := by decide +kernel
theorem dX8_closes_103 : decode cX8_closes 103 = .ok (.iload_n 1, 1) := by decide +kernel
theorem dX8_closes_104 : decode cX8_closes 104 = .ok (.iload_n 2, 1) := by decide +kernel
theorem dX8_closes_105 : decode cX8_closes 105 = .ok (.iload 4, 2) := by decide +kernel
theorem dX8_closes_107 : decode cX8_closes 107 = .ok (.aload_n 0, 1) := by decide +kernel
theorem dX8_closes_108 : decode cX8_closes 108 = .ok (.getfield 52, 3) := by decide +kernel
theorem dX8_closes_111 : decode cX8_closes 111 = .ok (.iload 5, 2) := by decide +kernel
theorem dX8_closes_113 : decode cX8_closes 113 = .ok (.iaload, 1) := by decide +kernel
theorem dX8_closes_114 : decode cX8_closes 114 = .ok (.bipush 90, 2) := by decide +kernel
theorem dX8_closes_116 : decode cX8_closes 116 = .ok (.iload_n 2, 1) := by decide +kernel
theorem dX8_closes_117 : decode cX8_closes 117 = .ok (.imul, 1) := by decide +kernel
theorem dX8_closes_118 : decode cX8_closes 118 = .ok (.bipush 89, 2) := by decide +kernel
theorem dX8_closes_120 : decode cX8_closes 120 = .ok (.iadd, 1) := by decide +kernel
theorem dX8_closes_121 : decode cX8_closes 121 = .ok (.invokevirtual 207, 3) := by decide +kernel
theorem dX8_closes_124 : decode cX8_closes 124 = .ok (.goto 25, 3) := by decide +kernel
theorem dX8_closes_127 : decode cX8_closes 127 = .ok (.aload_n 0, 1) := by decide +kernel
theorem dX8_closes_128 : decode cX8_closes 128 = .ok (.iload_n 1, 1) := by decide +kernel
theorem dX8_closes_129 : decode cX8_closes 129 = .ok (.iload_n 2, 1) := by decide +kernel
theorem dX8_closes_130 : decode cX8_closes 130 = .ok (.iload 4, 2) := by decide +kernel
theorem dX8_closes_132 : decode cX8_closes 132 = .ok (.aload_n 0, 1) := by decide +kernel
theorem dX8_closes_133 : decode cX8_closes 133 = .ok (.getfield 46, 3) := by decide +kernel
theorem dX8_closes_136 : decode cX8_closes 136 = .ok (.iload 5, 2) := by decide +kernel
theorem dX8_closes_138 : decode cX8_closes 138 = .ok (.iaload, 1) := by decide +kernel
theorem dX8_closes_139 : decode cX8_closes 139 = .ok (.bipush 90, 2) := by decide +kernel
theorem dX8_closes_141 : decode cX8_closes 141 = .ok (.iload_n 2, 1) := by decide +kernel
theorem dX8_closes_142 : decode cX8_closes 142 = .ok (.imul, 1) := by decide +kernel
theorem dX8_closes_143 : decode cX8_closes 143 = .ok (.bipush 89, 2) := by decide +kernel
theorem dX8_closes_145 : decode cX8_closes 145 = .ok (.iadd, 1) := by decide +kernel
theorem dX8_closes_146 : decode cX8_closes 146 = .ok (.invokevirtual 207, 3) := by decide +kernel
theorem dX8_closes_149 : decode cX8_closes 149 = .ok (.iinc 3 1, 3) := by decide +kernel
theorem dX8_closes_152 : decode cX8_closes 152 = .ok (.goto (-150), 3) := by decide +kernel
theorem dX8_closes_155 : decode cX8_closes 155 = .ok (.iconst 0, 1) := by decide +kernel
theorem dX8_closes_156 : decode cX8_closes 156 = .ok (.istore_n 3, 1) := by decide +kernel
theorem dX8_closes_157 : decode cX8_closes 157 = .ok (.iload_n 3, 1) := by decide +kernel
theorem dX8_closes_158 : decode cX8_closes 158 = .ok (.aload_n 0, 1) := by decide +kernel
theorem dX8_closes_159 : decode cX8_closes 159 = .ok (.getfield 157, 3) := by decide +kernel
theorem dX8_closes_162 : decode cX8_closes 162 = .ok (.if_icmp .ge 90, 3) := by decide +kernel
theorem dX8_closes_165 : decode cX8_closes 165 = .ok (.aload_n 0, 1) := by decide +kernel
theorem dX8_closes_166 : decode cX8_closes 166 = .ok (.getfield 22, 3) := by decide +kernel
theorem dX8_closes_169 : decode cX8_closes 169 = .ok (.iload_n 3, 1) := by decide +kernel
theorem dX8_closes_170 : decode cX8_closes 170 = .ok (.iaload, 1) := by decide +kernel
theorem dX8_closes_171 : decode cX8_closes 171 = .ok (.iconst 4, 1) := by decide +kernel
theorem dX8_closes_172 : decode cX8_closes 172 = .ok (.if_icmp .ne 74, 3) := by decide +kernel
theorem dX8_closes_175 : decode cX8_closes 175 = .ok (.iload_n 2, 1) := by decide +kernel
theorem dX8_closes_176 : decode cX8_closes 176 = .ok (.aload_n 0, 1) := by decide +kernel
theorem dX8_closes_177 : decode cX8_closes 177 = .ok (.getfield 37, 3) := by decide +kernel
theorem dX8_closes_180 : decode cX8_closes 180 = .ok (.iload_n 3, 1) := by decide +kernel
theorem dX8_closes_181 : decode cX8_closes 181 = .ok (.iaload, 1) := by decide +kernel
theorem dX8_closes_182 : decode cX8_closes 182 = .ok (.if_icmp .ge 6, 3) := by decide +kernel
theorem dX8_closes_185 : decode cX8_closes 185 = .ok (.goto 61, 3) := by decide +kernel
theorem dX8_closes_188 : decode cX8_closes 188 = .ok (.iload_n 1, 1) := by decide +kernel
theorem dX8_closes_189 : decode cX8_closes 189 = .ok (.iload_n 3, 1) := by decide +kernel
theorem dX8_closes_190 : decode cX8_closes 190 = .ok (.iload_n 2, 1) := by decide +kernel
theorem dX8_closes_191 : decode cX8_closes 191 = .ok (.aload_n 0, 1) := by decide +kernel
theorem dX8_closes_192 : decode cX8_closes 192 = .ok (.getfield 37, 3) := by decide +kernel
theorem dX8_closes_195 : decode cX8_closes 195 = .ok (.iload_n 3, 1) := by decide +kernel
theorem dX8_closes_196 : decode cX8_closes 196 = .ok (.iaload, 1) := by decide +kernel
theorem dX8_closes_197 : decode cX8_closes 197 = .ok (.isub, 1) := by decide +kernel
theorem dX8_closes_198 : decode cX8_closes 198 = .ok (.invokestatic 196, 3) := by decide +kernel
theorem dX8_closes_201 : decode cX8_closes 201 = .ok (.istore 4, 2) := by decide +kernel
theorem dX8_closes_203 : decode cX8_closes 203 = .ok (.bipush 12, 2) := by decide +kernel
theorem dX8_closes_205 : decode cX8_closes 205 = .ok (.iload_n 1, 1) := by decide +kernel
theorem dX8_closes_206 : decode cX8_closes 206 = .ok (.imul, 1) := by decide +kernel
theorem dX8_closes_207 : decode cX8_closes 207 = .ok (.aload_n 0, 1) := by decide +kernel
theorem dX8_closes_208 : decode cX8_closes 208 = .ok (.getfield 25, 3) := by decide +kernel
theorem dX8_closes_211 : decode cX8_closes 211 = .ok (.iload_n 3, 1) := by decide +kernel
theorem dX8_closes_212 : decode cX8_closes 212 = .ok (.iaload, 1) := by decide +kernel
theorem dX8_closes_213 : decode cX8_closes 213 = .ok (.iadd, 1) := by decide +kernel
theorem dX8_closes_214 : decode cX8_closes 214 = .ok (.istore 5, 2) := by decide +kernel
theorem dX8_closes_216 : decode cX8_closes 216 = .ok (.aload_n 0, 1) := by decide +kernel
theorem dX8_closes_217 : decode cX8_closes 217 = .ok (.getfield 71, 3) := by decide +kernel
theorem dX8_closes_220 : decode cX8_closes 220 = .ok (.iload 5, 2) := by decide +kernel
theorem dX8_closes_222 : decode cX8_closes 222 = .ok (.aload_n 0, 1) := by decide +kernel
theorem dX8_closes_223 : decode cX8_closes 223 = .ok (.getfield 71, 3) := by decide +kernel
theorem dX8_closes_226 : decode cX8_closes 226 = .ok (.iload 5, 2) := by decide +kernel
theorem dX8_closes_228 : decode cX8_closes 228 = .ok (.laload, 1) := by decide +kernel
theorem dX8_closes_229 : decode cX8_closes 229 = .ok (.aload_n 0, 1) := by decide +kernel
theorem dX8_closes_230 : decode cX8_closes 230 = .ok (.getfield 84, 3) := by decide +kernel
theorem dX8_closes_233 : decode cX8_closes 233 = .ok (.iload 4, 2) := by decide +kernel
theorem dX8_closes_235 : decode cX8_closes 235 = .ok (.laload, 1) := by decide +kernel
theorem dX8_closes_236 : decode cX8_closes 236 = .ok (.ladd, 1) := by decide +kernel
theorem dX8_closes_237 : decode cX8_closes 237 = .ok (.lastore, 1) := by decide +kernel
theorem dX8_closes_238 : decode cX8_closes 238 = .ok (.aload_n 0, 1) := by decide +kernel
theorem dX8_closes_239 : decode cX8_closes 239 = .ok (.getfield 84, 3) := by decide +kernel
theorem dX8_closes_242 : decode cX8_closes 242 = .ok (.iload 4, 2) := by decide +kernel
theorem dX8_closes_244 : decode cX8_closes 244 = .ok (.lconst 0, 1) := by decide +kernel
theorem dX8_closes_245 : decode cX8_closes 245 = .ok (.lastore, 1) := by decide +kernel
theorem dX8_closes_246 : decode cX8_closes 246 = .ok (.iinc 3 1, 3) := by decide +kernel
theorem dX8_closes_249 : decode cX8_closes 249 = .ok (.goto (-92), 3) := by decide +kernel
theorem dX8_closes_252 : decode cX8_closes 252 = .ok (.iconst 0, 1) := by decide +kernel
theorem dX8_closes_253 : decode cX8_closes 253 = .ok (.istore_n 3, 1) := by decide +kernel
theorem dX8_closes_254 : decode cX8_closes 254 = .ok (.iload_n 3, 1) := by decide +kernel
theorem dX8_closes_255 : decode cX8_closes 255 = .ok (.bipush 12, 2) := by decide +kernel
theorem dX8_closes_257 : decode cX8_closes 257 = .ok (.if_icmp .ge 16, 3) := by decide +kernel
theorem dX8_closes_260 : decode cX8_closes 260 = .ok (.aload_n 0, 1) := by decide +kernel
theorem dX8_closes_261 : decode cX8_closes 261 = .ok (.iload_n 1, 1) := by decide +kernel
theorem dX8_closes_262 : decode cX8_closes 262 = .ok (.iload_n 2, 1) := by decide +kernel
theorem dX8_closes_263 : decode cX8_closes 263 = .ok (.iload_n 3, 1) := by decide +kernel
theorem dX8_closes_264 : decode cX8_closes 264 = .ok (.invokevirtual 210, 3) := by decide +kernel
theorem dX8_closes_267 : decode cX8_closes 267 = .ok (.iinc 3 1, 3) := by decide +kernel
theorem dX8_closes_270 : decode cX8_closes 270 = .ok (.goto (-16), 3) := by decide +kernel
theorem dX8_closes_273 : decode cX8_closes 273 = .ok (.iconst 0, 1) := by decide +kernel
theorem dX8_closes_274 : decode cX8_closes 274 = .ok (.istore_n 3, 1) := by decide +kernel
theorem dX8_closes_275 : decode cX8_closes 275 = .ok (.iload_n 3, 1) := by decide +kernel
theorem dX8_closes_276 : decode cX8_closes 276 = .ok (.aload_n 0, 1) := by decide +kernel
theorem dX8_closes_277 : decode cX8_closes 277 = .ok (.getfield 157, 3) := by decide +kernel
theorem dX8_closes_280 : decode cX8_closes 280 = .ok (.if_icmp .ge 49, 3) := by decide +kernel
theorem dX8_closes_283 : decode cX8_closes 283 = .ok (.iload_n 2, 1) := by decide +kernel
theorem dX8_closes_284 : decode cX8_closes 284 = .ok (.iconst 4, 1) := by decide +kernel
theorem dX8_closes_285 : decode cX8_closes 285 = .ok (.irem, 1) := by decide +kernel
theorem dX8_closes_286 : decode cX8_closes 286 = .ok (.iconst 3, 1) := by decide +kernel
theorem dX8_closes_287 : decode cX8_closes 287 = .ok (.if_icmp .ne 42, 3) := by decide +kernel
theorem dX8_closes_290 : decode cX8_closes 290 = .ok (.aload_n 0, 1) := by decide +kernel
theorem dX8_closes_291 : decode cX8_closes 291 = .ok (.getfield 22, 3) := by decide +kernel
theorem dX8_closes_294 : decode cX8_closes 294 = .ok (.iload_n 3, 1) := by decide +kernel
theorem dX8_closes_295 : decode cX8_closes 295 = .ok (.iaload, 1) := by decide +kernel
theorem dX8_closes_296 : decode cX8_closes 296 = .ok (.iconst 2, 1) := by decide +kernel
theorem dX8_closes_297 : decode cX8_closes 297 = .ok (.if_icmp .ne 26, 3) := by decide +kernel
theorem dX8_closes_300 : decode cX8_closes 300 = .ok (.aload_n 0, 1) := by decide +kernel
theorem dX8_closes_301 : decode cX8_closes 301 = .ok (.getfield 31, 3) := by decide +kernel
theorem dX8_closes_304 : decode cX8_closes 304 = .ok (.iload_n 3, 1) := by decide +kernel
theorem dX8_closes_305 : decode cX8_closes 305 = .ok (.iaload, 1) := by decide +kernel
theorem dX8_closes_306 : decode cX8_closes 306 = .ok (.bipush 90, 2) := by decide +kernel
theorem dX8_closes_308 : decode cX8_closes 308 = .ok (.iload_n 2, 1) := by decide +kernel
theorem dX8_closes_309 : decode cX8_closes 309 = .ok (.imul, 1) := by decide +kernel
theorem dX8_closes_310 : decode cX8_closes 310 = .ok (.bipush 89, 2) := by decide +kernel
theorem dX8_closes_312 : decode cX8_closes 312 = .ok (.iadd, 1) := by decide +kernel
theorem dX8_closes_313 : decode cX8_closes 313 = .ok (.if_icmp .gt 10, 3) := by decide +kernel
theorem dX8_closes_316 : decode cX8_closes 316 = .ok (.aload_n 0, 1) := by decide +kernel
theorem dX8_closes_317 : decode cX8_closes 317 = .ok (.iload_n 1, 1) := by decide +kernel
theorem dX8_closes_318 : decode cX8_closes 318 = .ok (.iload_n 2, 1) := by decide +kernel
theorem dX8_closes_319 : decode cX8_closes 319 = .ok (.iload_n 3, 1) := by decide +kernel
theorem dX8_closes_320 : decode cX8_closes 320 = .ok (.invokevirtual 214, 3) := by decide +kernel
theorem dX8_closes_323 : decode cX8_closes 323 = .ok (.iinc 3 1, 3) := by decide +kernel
theorem dX8_closes_326 : decode cX8_closes 326 = .ok (.goto (-51), 3) := by decide +kernel
theorem dX8_closes_329 : decode cX8_closes 329 = .ok (.return_, 1) := by decide +kernel
set_option maxRecDepth 20000 in
theorem ggX8_pays_X8_dueAt : GoodIn wsX8_pays wsX8_dueAt := goodIn_r _ [8] (by decide +kernel) (by decide +kernel)
set_option maxRecDepth 20000 in
theorem gX8_pays_X8_dueAt : GoodIn wsX8_pays (va_wsS RX8 217 yX8_dueAt wsX8_dueAt) := goodIn_app (goodIn_of _ (by decide +kernel)) ggX8_pays_X8_dueAt
theorem dX8_pays_0 : decode cX8_pays 0 = .ok (.bipush 12, 2) := by decide +kernel
theorem dX8_pays_2 : decode cX8_pays 2 = .ok (.iload_n 1, 1) := by decide +kernel
theorem dX8_pays_3 : decode cX8_pays 3 = .ok (.imul, 1) := by decide +kernel
theorem dX8_pays_4 : decode cX8_pays 4 = .ok (.iload_n 3, 1) := by decide +kernel
theorem dX8_pays_5 : decode cX8_pays 5 = .ok (.iadd, 1) := by decide +kernel
theorem dX8_pays_6 : decode cX8_pays 6 = .ok (.istore 4, 2) := by decide +kernel
theorem dX8_pays_8 : decode cX8_pays 8 = .ok (.aload_n 0, 1) := by decide +kernel
theorem dX8_pays_9 : decode cX8_pays 9 = .ok (.getfield 75, 3) := by decide +kernel
theorem dX8_pays_12 : decode cX8_pays 12 = .ok (.iload 4, 2) := by decide +kernel
theorem dX8_pays_14 : decode cX8_pays 14 = .ok (.laload, 1) := by decide +kernel
theorem dX8_pays_15 : decode cX8_pays 15 = .ok (.lconst 0, 1) := by decide +kernel
theorem dX8_pays_16 : decode cX8_pays 16 = .ok (.lcmp, 1) := by decide +kernel
theorem dX8_pays_17 : decode cX8_pays 17 = .ok (.ifCond .le 86, 3) := by decide +kernel
theorem dX8_pays_20 : decode cX8_pays 20 = .ok (.aload_n 0, 1) := by decide +kernel
theorem dX8_pays_21 : decode cX8_pays 21 = .ok (.getfield 71, 3) := by decide +kernel
theorem dX8_pays_24 : decode cX8_pays 24 = .ok (.iload 4, 2) := by decide +kernel
theorem dX8_pays_26 : decode cX8_pays 26 = .ok (.laload, 1) := by decide +kernel
theorem dX8_pays_27 : decode cX8_pays 27 = .ok (.lconst 0, 1) := by decide +kernel
theorem dX8_pays_28 : decode cX8_pays 28 = .ok (.lcmp, 1) := by decide +kernel
theorem dX8_pays_29 : decode cX8_pays 29 = .ok (.ifCond .le 74, 3) := by decide +kernel
theorem dX8_pays_32 : decode cX8_pays 32 = .ok (.aload_n 0, 1) := by decide +kernel
theorem dX8_pays_33 : decode cX8_pays 33 = .ok (.getfield 71, 3) := by decide +kernel
theorem dX8_pays_36 : decode cX8_pays 36 = .ok (.iload 4, 2) := by decide +kernel
theorem dX8_pays_38 : decode cX8_pays 38 = .ok (.laload, 1) := by decide +kernel
theorem dX8_pays_39 : decode cX8_pays 39 = .ok (.aload_n 0, 1) := by decide +kernel
theorem dX8_pays_40 : decode cX8_pays 40 = .ok (.getfield 75, 3) := by decide +kernel
theorem dX8_pays_43 : decode cX8_pays 43 = .ok (.iload 4, 2) := by decide +kernel
theorem dX8_pays_45 : decode cX8_pays 45 = .ok (.laload, 1) := by decide +kernel
theorem dX8_pays_46 : decode cX8_pays 46 = .ok (.lcmp, 1) := by decide +kernel
theorem dX8_pays_47 : decode cX8_pays 47 = .ok (.ifCond .ge 13, 3) := by decide +kernel
theorem dX8_pays_50 : decode cX8_pays 50 = .ok (.aload_n 0, 1) := by decide +kernel
theorem dX8_pays_51 : decode cX8_pays 51 = .ok (.getfield 71, 3) := by decide +kernel
theorem dX8_pays_54 : decode cX8_pays 54 = .ok (.iload 4, 2) := by decide +kernel
theorem dX8_pays_56 : decode cX8_pays 56 = .ok (.laload, 1) := by decide +kernel
theorem dX8_pays_57 : decode cX8_pays 57 = .ok (.goto 10, 3) := by decide +kernel
theorem dX8_pays_60 : decode cX8_pays 60 = .ok (.aload_n 0, 1) := by decide +kernel
theorem dX8_pays_61 : decode cX8_pays 61 = .ok (.getfield 75, 3) := by decide +kernel
theorem dX8_pays_64 : decode cX8_pays 64 = .ok (.iload 4, 2) := by decide +kernel
theorem dX8_pays_66 : decode cX8_pays 66 = .ok (.laload, 1) := by decide +kernel
theorem dX8_pays_67 : decode cX8_pays 67 = .ok (.lstore 5, 2) := by decide +kernel
theorem dX8_pays_69 : decode cX8_pays 69 = .ok (.aload_n 0, 1) := by decide +kernel
theorem dX8_pays_70 : decode cX8_pays 70 = .ok (.getfield 71, 3) := by decide +kernel
theorem dX8_pays_73 : decode cX8_pays 73 = .ok (.iload 4, 2) := by decide +kernel
theorem dX8_pays_75 : decode cX8_pays 75 = .ok (.aload_n 0, 1) := by decide +kernel
theorem dX8_pays_76 : decode cX8_pays 76 = .ok (.getfield 71, 3) := by decide +kernel
theorem dX8_pays_79 : decode cX8_pays 79 = .ok (.iload 4, 2) := by decide +kernel
theorem dX8_pays_81 : decode cX8_pays 81 = .ok (.laload, 1) := by decide +kernel
theorem dX8_pays_82 : decode cX8_pays 82 = .ok (.lload 5, 2) := by decide +kernel
theorem dX8_pays_84 : decode cX8_pays 84 = .ok (.lsub, 1) := by decide +kernel
theorem dX8_pays_85 : decode cX8_pays 85 = .ok (.lastore, 1) := by decide +kernel
theorem dX8_pays_86 : decode cX8_pays 86 = .ok (.aload_n 0, 1) := by decide +kernel
theorem dX8_pays_87 : decode cX8_pays 87 = .ok (.getfield 75, 3) := by decide +kernel
theorem dX8_pays_90 : decode cX8_pays 90 = .ok (.iload 4, 2) := by decide +kernel
theorem dX8_pays_92 : decode cX8_pays 92 = .ok (.aload_n 0, 1) := by decide +kernel
theorem dX8_pays_93 : decode cX8_pays 93 = .ok (.getfield 75, 3) := by decide +kernel
theorem dX8_pays_96 : decode cX8_pays 96 = .ok (.iload 4, 2) := by decide +kernel
theorem dX8_pays_98 : decode cX8_pays 98 = .ok (.laload, 1) := by decide +kernel
theorem dX8_pays_99 : decode cX8_pays 99 = .ok (.lload 5, 2) := by decide +kernel
theorem dX8_pays_101 : decode cX8_pays 101 = .ok (.lsub, 1) := by decide +kernel
theorem dX8_pays_102 : decode cX8_pays 102 = .ok (.lastore, 1) := by decide +kernel
theorem dX8_pays_103 : decode cX8_pays 103 = .ok (.aload_n 0, 1) := by decide +kernel
theorem dX8_pays_104 : decode cX8_pays 104 = .ok (.getfield 71, 3) := by decide +kernel
theorem dX8_pays_107 : decode cX8_pays 107 = .ok (.iload 4, 2) := by decide +kernel
theorem dX8_pays_109 : decode cX8_pays 109 = .ok (.laload, 1) := by decide +kernel
theorem dX8_pays_110 : decode cX8_pays 110 = .ok (.ldc2_w 194, 3) := by decide +kernel
theorem dX8_pays_113 : decode cX8_pays 113 = .ok (.lcmp, 1) := by decide +kernel
theorem dX8_pays_114 : decode cX8_pays 114 = .ok (.ifCond .ge 7, 3) := by decide +kernel
theorem dX8_pays_117 : decode cX8_pays 117 = .ok (.iconst 0, 1) := by decide +kernel
theorem dX8_pays_118 : decode cX8_pays 118 = .ok (.goto 15, 3) := by decide +kernel
theorem dX8_pays_121 : decode cX8_pays 121 = .ok (.aload_n 0, 1) := by decide +kernel
theorem dX8_pays_122 : decode cX8_pays 122 = .ok (.getfield 71, 3) := by decide +kernel
theorem dX8_pays_125 : decode cX8_pays 125 = .ok (.iload 4, 2) := by decide +kernel
theorem dX8_pays_127 : decode cX8_pays 127 = .ok (.laload, 1) := by decide +kernel
theorem dX8_pays_128 : decode cX8_pays 128 = .ok (.ldc2_w 194, 3) := by decide +kernel
theorem dX8_pays_131 : decode cX8_pays 131 = .ok (.ldiv, 1) := by decide +kernel
theorem dX8_pays_132 : decode cX8_pays 132 = .ok (.l2i, 1) := by decide +kernel
theorem dX8_pays_133 : decode cX8_pays 133 = .ok (.istore 5, 2) := by decide +kernel
theorem dX8_pays_135 : decode cX8_pays 135 = .ok (.aload_n 0, 1) := by decide +kernel
theorem dX8_pays_136 : decode cX8_pays 136 = .ok (.getfield 87, 3) := by decide +kernel
theorem dX8_pays_139 : decode cX8_pays 139 = .ok (.iload_n 1, 1) := by decide +kernel
theorem dX8_pays_140 : decode cX8_pays 140 = .ok (.iload_n 3, 1) := by decide +kernel
theorem dX8_pays_141 : decode cX8_pays 141 = .ok (.iload_n 2, 1) := by decide +kernel
theorem dX8_pays_142 : decode cX8_pays 142 = .ok (.invokestatic 217, 3) := by decide +kernel
theorem dX8_pays_145 : decode cX8_pays 145 = .ok (.iload 5, 2) := by decide +kernel
theorem dX8_pays_147 : decode cX8_pays 147 = .ok (.iastore, 1) := by decide +kernel
theorem dX8_pays_148 : decode cX8_pays 148 = .ok (.aload_n 0, 1) := by decide +kernel
theorem dX8_pays_149 : decode cX8_pays 149 = .ok (.getfield 71, 3) := by decide +kernel
theorem dX8_pays_152 : decode cX8_pays 152 = .ok (.iload 4, 2) := by decide +kernel
theorem dX8_pays_154 : decode cX8_pays 154 = .ok (.aload_n 0, 1) := by decide +kernel
theorem dX8_pays_155 : decode cX8_pays 155 = .ok (.getfield 71, 3) := by decide +kernel
theorem dX8_pays_158 : decode cX8_pays 158 = .ok (.iload 4, 2) := by decide +kernel
theorem dX8_pays_160 : decode cX8_pays 160 = .ok (.laload, 1) := by decide +kernel
theorem dX8_pays_161 : decode cX8_pays 161 = .ok (.iload 5, 2) := by decide +kernel
theorem dX8_pays_163 : decode cX8_pays 163 = .ok (.i2l, 1) := by decide +kernel
theorem dX8_pays_164 : decode cX8_pays 164 = .ok (.ldc2_w 194, 3) := by decide +kernel
theorem dX8_pays_167 : decode cX8_pays 167 = .ok (.lmul, 1) := by decide +kernel
theorem dX8_pays_168 : decode cX8_pays 168 = .ok (.lsub, 1) := by decide +kernel
theorem dX8_pays_169 : decode cX8_pays 169 = .ok (.lastore, 1) := by decide +kernel
theorem dX8_pays_170 : decode cX8_pays 170 = .ok (.return_, 1) := by decide +kernel
set_option maxRecDepth 20000 in
theorem ggX8_fills_X8_dueAt : GoodIn wsX8_fills wsX8_dueAt := goodIn_r _ [8] (by decide +kernel) (by decide +kernel)
set_option maxRecDepth 20000 in
theorem gX8_fills_X8_dueAt : GoodIn wsX8_fills (va_wsS RX8 217 yX8_dueAt wsX8_dueAt) := goodIn_app (goodIn_of _ (by decide +kernel)) ggX8_fills_X8_dueAt
theorem dX8_fills_0 : decode cX8_fills 0 = .ok (.aload_n 0, 1) := by decide +kernel
theorem dX8_fills_1 : decode cX8_fills 1 = .ok (.getfield 25, 3) := by decide +kernel
theorem dX8_fills_4 : decode cX8_fills 4 = .ok (.iload_n 3, 1) := by decide +kernel
theorem dX8_fills_5 : decode cX8_fills 5 = .ok (.iaload, 1) := by decide +kernel
theorem dX8_fills_6 : decode cX8_fills 6 = .ok (.istore 4, 2) := by decide +kernel
theorem dX8_fills_8 : decode cX8_fills 8 = .ok (.lconst 0, 1) := by decide +kernel
theorem dX8_fills_9 : decode cX8_fills 9 = .ok (.lstore 5, 2) := by decide +kernel
theorem dX8_fills_11 : decode cX8_fills 11 = .ok (.iload_n 2, 1) := by decide +kernel
theorem dX8_fills_12 : decode cX8_fills 12 = .ok (.iconst 3, 1) := by decide +kernel
theorem dX8_fills_13 : decode cX8_fills 13 = .ok (.isub, 1) := by decide +kernel
theorem dX8_fills_14 : decode cX8_fills 14 = .ok (.istore 7, 2) := by decide +kernel
theorem dX8_fills_16 : decode cX8_fills 16 = .ok (.iload 7, 2) := by decide +kernel
theorem dX8_fills_18 : decode cX8_fills 18 = .ok (.iload_n 2, 1) := by decide +kernel
theorem dX8_fills_19 : decode cX8_fills 19 = .ok (.if_icmp .gt 28, 3) := by decide +kernel
theorem dX8_fills_22 : decode cX8_fills 22 = .ok (.lload 5, 2) := by decide +kernel
theorem dX8_fills_24 : decode cX8_fills 24 = .ok (.aload_n 0, 1) := by decide +kernel
theorem dX8_fills_25 : decode cX8_fills 25 = .ok (.getfield 87, 3) := by decide +kernel
theorem dX8_fills_28 : decode cX8_fills 28 = .ok (.iload_n 1, 1) := by decide +kernel
theorem dX8_fills_29 : decode cX8_fills 29 = .ok (.iload 4, 2) := by decide +kernel
theorem dX8_fills_31 : decode cX8_fills 31 = .ok (.iload 7, 2) := by decide +kernel
theorem dX8_fills_33 : decode cX8_fills 33 = .ok (.invokestatic 217, 3) := by decide +kernel
theorem dX8_fills_36 : decode cX8_fills 36 = .ok (.iaload, 1) := by decide +kernel
theorem dX8_fills_37 : decode cX8_fills 37 = .ok (.i2l, 1) := by decide +kernel
theorem dX8_fills_38 : decode cX8_fills 38 = .ok (.ladd, 1) := by decide +kernel
theorem dX8_fills_39 : decode cX8_fills 39 = .ok (.lstore 5, 2) := by decide +kernel
theorem dX8_fills_41 : decode cX8_fills 41 = .ok (.iinc 7 1, 3) := by decide +kernel
theorem dX8_fills_44 : decode cX8_fills 44 = .ok (.goto (-28), 3) := by decide +kernel
theorem dX8_fills_47 : decode cX8_fills 47 = .ok (.lload 5, 2) := by decide +kernel
theorem dX8_fills_49 : decode cX8_fills 49 = .ok (.aload_n 0, 1) := by decide +kernel
theorem dX8_fills_50 : decode cX8_fills 50 = .ok (.getfield 34, 3) := by decide +kernel
theorem dX8_fills_53 : decode cX8_fills 53 = .ok (.iload_n 3, 1) := by decide +kernel
theorem dX8_fills_54 : decode cX8_fills 54 = .ok (.iaload, 1) := by decide +kernel
theorem dX8_fills_55 : decode cX8_fills 55 = .ok (.i2l, 1) := by decide +kernel
theorem dX8_fills_56 : decode cX8_fills 56 = .ok (.lcmp, 1) := by decide +kernel
theorem dX8_fills_57 : decode cX8_fills 57 = .ok (.ifCond .lt 4, 3) := by decide +kernel
theorem dX8_fills_60 : decode cX8_fills 60 = .ok (.return_, 1) := by decide +kernel
theorem dX8_fills_61 : decode cX8_fills 61 = .ok (.aload_n 0, 1) := by decide +kernel
theorem dX8_fills_62 : decode cX8_fills 62 = .ok (.getfield 34, 3) := by decide +kernel
theorem dX8_fills_65 : decode cX8_fills 65 = .ok (.iload_n 3, 1) := by decide +kernel
theorem dX8_fills_66 : decode cX8_fills 66 = .ok (.iaload, 1) := by decide +kernel
theorem dX8_fills_67 : decode cX8_fills 67 = .ok (.i2l, 1) := by decide +kernel
theorem dX8_fills_68 : decode cX8_fills 68 = .ok (.lload 5, 2) := by decide +kernel
theorem dX8_fills_70 : decode cX8_fills 70 = .ok (.lsub, 1) := by decide +kernel
theorem dX8_fills_71 : decode cX8_fills 71 = .ok (.l2i, 1) := by decide +kernel
theorem dX8_fills_72 : decode cX8_fills 72 = .ok (.istore 7, 2) := by decide +kernel
theorem dX8_fills_74 : decode cX8_fills 74 = .ok (.aload_n 0, 1) := by decide +kernel
theorem dX8_fills_75 : decode cX8_fills 75 = .ok (.getfield 87, 3) := by decide +kernel
theorem dX8_fills_78 : decode cX8_fills 78 = .ok (.iload_n 1, 1) := by decide +kernel
theorem dX8_fills_79 : decode cX8_fills 79 = .ok (.iload 4, 2) := by decide +kernel
theorem dX8_fills_81 : decode cX8_fills 81 = .ok (.iload_n 2, 1) := by decide +kernel
theorem dX8_fills_82 : decode cX8_fills 82 = .ok (.invokestatic 217, 3) := by decide +kernel
theorem dX8_fills_85 : decode cX8_fills 85 = .ok (.aload_n 0, 1) := by decide +kernel
theorem dX8_fills_86 : decode cX8_fills 86 = .ok (.getfield 87, 3) := by decide +kernel
theorem dX8_fills_89 : decode cX8_fills 89 = .ok (.iload_n 1, 1) := by decide +kernel
theorem dX8_fills_90 : decode cX8_fills 90 = .ok (.iload 4, 2) := by decide +kernel
theorem dX8_fills_92 : decode cX8_fills 92 = .ok (.iload_n 2, 1) := by decide +kernel
theorem dX8_fills_93 : decode cX8_fills 93 = .ok (.invokestatic 217, 3) := by decide +kernel
theorem dX8_fills_96 : decode cX8_fills 96 = .ok (.iaload, 1) := by decide +kernel
theorem dX8_fills_97 : decode cX8_fills 97 = .ok (.iload 7, 2) := by decide +kernel
theorem dX8_fills_99 : decode cX8_fills 99 = .ok (.iadd, 1) := by decide +kernel
theorem dX8_fills_100 : decode cX8_fills 100 = .ok (.iastore, 1) := by decide +kernel
theorem dX8_fills_101 : decode cX8_fills 101 = .ok (.aload_n 0, 1) := by decide +kernel
theorem dX8_fills_102 : decode cX8_fills 102 = .ok (.getfield 90, 3) := by decide +kernel
theorem dX8_fills_105 : decode cX8_fills 105 = .ok (.bipush 12, 2) := by decide +kernel
theorem dX8_fills_107 : decode cX8_fills 107 = .ok (.iload_n 1, 1) := by decide +kernel
theorem dX8_fills_108 : decode cX8_fills 108 = .ok (.imul, 1) := by decide +kernel
theorem dX8_fills_109 : decode cX8_fills 109 = .ok (.iload 4, 2) := by decide +kernel
theorem dX8_fills_111 : decode cX8_fills 111 = .ok (.iadd, 1) := by decide +kernel
theorem dX8_fills_112 : decode cX8_fills 112 = .ok (.aload_n 0, 1) := by decide +kernel
theorem dX8_fills_113 : decode cX8_fills 113 = .ok (.getfield 90, 3) := by decide +kernel
theorem dX8_fills_116 : decode cX8_fills 116 = .ok (.bipush 12, 2) := by decide +kernel
theorem dX8_fills_118 : decode cX8_fills 118 = .ok (.iload_n 1, 1) := by decide +kernel
theorem dX8_fills_119 : decode cX8_fills 119 = .ok (.imul, 1) := by decide +kernel
theorem dX8_fills_120 : decode cX8_fills 120 = .ok (.iload 4, 2) := by decide +kernel
theorem dX8_fills_122 : decode cX8_fills 122 = .ok (.iadd, 1) := by decide +kernel
theorem dX8_fills_123 : decode cX8_fills 123 = .ok (.iaload, 1) := by decide +kernel
theorem dX8_fills_124 : decode cX8_fills 124 = .ok (.iload 7, 2) := by decide +kernel
theorem dX8_fills_126 : decode cX8_fills 126 = .ok (.iadd, 1) := by decide +kernel
theorem dX8_fills_127 : decode cX8_fills 127 = .ok (.iastore, 1) := by decide +kernel
theorem dX8_fills_128 : decode cX8_fills 128 = .ok (.return_, 1) := by decide +kernel
set_option maxRecDepth 20000 in
theorem ggX8_close_X8_closes : GoodIn wsX8_close wsX8_closes := goodIn_r _ [7, 8, 9, 10, 11, 12, 13, 14, 15, 16, 17, 18, 19, 20, 21, 22, 23, 6, 24, 25, 26, 27, 28, 29, 30, 31, 32, 33, 34, 35, 36, 37, 38, 39, 40, 41, 42, 43, 44, 45, 46, 47, 48, 49, 50, 51, 52, 53, 54, 55, 2, 56, 57, 58, 59, 60, 61, 62, 63, 64, 65, 66, 67, 68, 69, 70, 71, 72, 73, 74, 75, 76, 77, 78, 79, 80, 81, 82, 83, 84, 85, 86, 87, 88, 89, 90, 91, 92, 93, 94, 95, 96, 97, 98, 99, 100, 101, 102, 103, 104, 105, 106, 107, 108, 109, 110, 111, 112, 113, 114, 115, 116, 117, 118, 119, 120, 121, 122, 123, 124, 125, 126, 127, 128, 129, 130, 131, 132, 133] (by decide +kernel) (by decide +kernel)
set_option maxRecDepth 20000 in
theorem gX8_close_X8_closes : GoodIn wsX8_close (wsV RX8 220 RX8 yX8_closes wsX8_closes) := goodIn_app (goodIn_of _ (by decide +kernel)) ggX8_close_X8_closes
theorem dX8_close_0 : decode cX8_close 0 = .ok (.aload_n 0, 1) := by decide +kernel
theorem dX8_close_1 : decode cX8_close 1 = .ok (.getfield 136, 3) := by decide +kernel
theorem dX8_close_4 : decode cX8_close 4 = .ok (.bipush 40, 2) := by decide +kernel
theorem dX8_close_6 : decode cX8_close 6 = .ok (.if_icmp .ne 5, 3) := by decide +kernel
theorem dX8_close_9 : decode cX8_close 9 = .ok (.iconst (-1), 1) := by decide +kernel
theorem dX8_close_10 : decode cX8_close 10 = .ok (.ireturn, 1) := by decide +kernel
theorem dX8_close_11 : decode cX8_close 11 = .ok (.aload_n 0, 1) := by decide +kernel
theorem dX8_close_12 : decode cX8_close 12 = .ok (.iconst 0, 1) := by decide +kernel
theorem dX8_close_13 : decode cX8_close 13 = .ok (.putfield 178, 3) := by decide +kernel
theorem dX8_close_16 : decode cX8_close 16 = .ok (.aload_n 0, 1) := by decide +kernel
theorem dX8_close_17 : decode cX8_close 17 = .ok (.iconst 0, 1) := by decide +kernel
theorem dX8_close_18 : decode cX8_close 18 = .ok (.aload_n 0, 1) := by decide +kernel
theorem dX8_close_19 : decode cX8_close 19 = .ok (.getfield 136, 3) := by decide +kernel
theorem dX8_close_22 : decode cX8_close 22 = .ok (.invokevirtual 220, 3) := by decide +kernel
theorem dX8_close_25 : decode cX8_close 25 = .ok (.aload_n 0, 1) := by decide +kernel
theorem dX8_close_26 : decode cX8_close 26 = .ok (.aload_n 0, 1) := by decide +kernel
theorem dX8_close_27 : decode cX8_close 27 = .ok (.getfield 136, 3) := by decide +kernel
theorem dX8_close_30 : decode cX8_close 30 = .ok (.iconst 1, 1) := by decide +kernel
theorem dX8_close_31 : decode cX8_close 31 = .ok (.iadd, 1) := by decide +kernel
theorem dX8_close_32 : decode cX8_close 32 = .ok (.putfield 136, 3) := by decide +kernel
theorem dX8_close_35 : decode cX8_close 35 = .ok (.aload_n 0, 1) := by decide +kernel
theorem dX8_close_36 : decode cX8_close 36 = .ok (.getfield 136, 3) := by decide +kernel
theorem dX8_close_39 : decode cX8_close 39 = .ok (.iconst 1, 1) := by decide +kernel
theorem dX8_close_40 : decode cX8_close 40 = .ok (.isub, 1) := by decide +kernel
theorem dX8_close_41 : decode cX8_close 41 = .ok (.ireturn, 1) := by decide +kernel
set_option maxRecDepth 20000 in
theorem ggX8_takes_X8_bag : GoodIn wsX8_takes wsX8_bag := goodIn_r _ [10] (by decide +kernel) (by decide +kernel)
set_option maxRecDepth 20000 in
theorem gX8_takes_X8_bag : GoodIn wsX8_takes (va_wsS RX8 196 yX8_bag wsX8_bag) := goodIn_app (goodIn_of _ (by decide +kernel)) ggX8_takes_X8_bag
theorem dX8_takes_0 : decode cX8_takes 0 = .ok (.iload_n 3, 1) := by decide +kernel
theorem dX8_takes_1 : decode cX8_takes 1 = .ok (.i2l, 1) := by decide +kernel
theorem dX8_takes_2 : decode cX8_takes 2 = .ok (.ldc2_w 194, 3) := by decide +kernel
theorem dX8_takes_5 : decode cX8_takes 5 = .ok (.lmul, 1) := by decide +kernel
theorem dX8_takes_6 : decode cX8_takes 6 = .ok (.lstore 4, 2) := by decide +kernel
theorem dX8_takes_8 : decode cX8_takes 8 = .ok (.iconst 0, 1) := by decide +kernel
theorem dX8_takes_9 : decode cX8_takes 9 = .ok (.istore 6, 2) := by decide +kernel
theorem dX8_takes_11 : decode cX8_takes 11 = .ok (.iload 6, 2) := by decide +kernel
theorem dX8_takes_13 : decode cX8_takes 13 = .ok (.bipush 40, 2) := by decide +kernel
theorem dX8_takes_15 : decode cX8_takes 15 = .ok (.if_icmp .ge 113, 3) := by decide +kernel
theorem dX8_takes_18 : decode cX8_takes 18 = .ok (.iconst 0, 1) := by decide +kernel
theorem dX8_takes_19 : decode cX8_takes 19 = .ok (.istore 7, 2) := by decide +kernel
theorem dX8_takes_21 : decode cX8_takes 21 = .ok (.iload 7, 2) := by decide +kernel
theorem dX8_takes_23 : decode cX8_takes 23 = .ok (.aload_n 0, 1) := by decide +kernel
theorem dX8_takes_24 : decode cX8_takes 24 = .ok (.getfield 157, 3) := by decide +kernel
theorem dX8_takes_27 : decode cX8_takes 27 = .ok (.if_icmp .ge 95, 3) := by decide +kernel
theorem dX8_takes_30 : decode cX8_takes 30 = .ok (.aload_n 0, 1) := by decide +kernel
theorem dX8_takes_31 : decode cX8_takes 31 = .ok (.getfield 22, 3) := by decide +kernel
theorem dX8_takes_34 : decode cX8_takes 34 = .ok (.iload 7, 2) := by decide +kernel
theorem dX8_takes_36 : decode cX8_takes 36 = .ok (.iaload, 1) := by decide +kernel
theorem dX8_takes_37 : decode cX8_takes 37 = .ok (.iconst 4, 1) := by decide +kernel
theorem dX8_takes_38 : decode cX8_takes 38 = .ok (.if_icmp .ne 78, 3) := by decide +kernel
theorem dX8_takes_41 : decode cX8_takes 41 = .ok (.aload_n 0, 1) := by decide +kernel
theorem dX8_takes_42 : decode cX8_takes 42 = .ok (.getfield 25, 3) := by decide +kernel
theorem dX8_takes_45 : decode cX8_takes 45 = .ok (.iload 7, 2) := by decide +kernel
theorem dX8_takes_47 : decode cX8_takes 47 = .ok (.iaload, 1) := by decide +kernel
theorem dX8_takes_48 : decode cX8_takes 48 = .ok (.iload_n 2, 1) := by decide +kernel
theorem dX8_takes_49 : decode cX8_takes 49 = .ok (.if_icmp .eq 6, 3) := by decide +kernel
theorem dX8_takes_52 : decode cX8_takes 52 = .ok (.goto 64, 3) := by decide +kernel
theorem dX8_takes_55 : decode cX8_takes 55 = .ok (.iload_n 1, 1) := by decide +kernel
theorem dX8_takes_56 : decode cX8_takes 56 = .ok (.iload 7, 2) := by decide +kernel
theorem dX8_takes_58 : decode cX8_takes 58 = .ok (.iload 6, 2) := by decide +kernel
theorem dX8_takes_60 : decode cX8_takes 60 = .ok (.invokestatic 196, 3) := by decide +kernel
theorem dX8_takes_63 : decode cX8_takes 63 = .ok (.istore 8, 2) := by decide +kernel
theorem dX8_takes_65 : decode cX8_takes 65 = .ok (.aload_n 0, 1) := by decide +kernel
theorem dX8_takes_66 : decode cX8_takes 66 = .ok (.getfield 84, 3) := by decide +kernel
theorem dX8_takes_69 : decode cX8_takes 69 = .ok (.iload 8, 2) := by decide +kernel
theorem dX8_takes_71 : decode cX8_takes 71 = .ok (.laload, 1) := by decide +kernel
theorem dX8_takes_72 : decode cX8_takes 72 = .ok (.lload 4, 2) := by decide +kernel
theorem dX8_takes_74 : decode cX8_takes 74 = .ok (.lcmp, 1) := by decide +kernel
theorem dX8_takes_75 : decode cX8_takes 75 = .ok (.ifCond .ge 13, 3) := by decide +kernel
theorem dX8_takes_78 : decode cX8_takes 78 = .ok (.aload_n 0, 1) := by decide +kernel
theorem dX8_takes_79 : decode cX8_takes 79 = .ok (.getfield 84, 3) := by decide +kernel
theorem dX8_takes_82 : decode cX8_takes 82 = .ok (.iload 8, 2) := by decide +kernel
theorem dX8_takes_84 : decode cX8_takes 84 = .ok (.laload, 1) := by decide +kernel
theorem dX8_takes_85 : decode cX8_takes 85 = .ok (.goto 5, 3) := by decide +kernel
theorem dX8_takes_88 : decode cX8_takes 88 = .ok (.lload 4, 2) := by decide +kernel
theorem dX8_takes_90 : decode cX8_takes 90 = .ok (.lstore 9, 2) := by decide +kernel
theorem dX8_takes_92 : decode cX8_takes 92 = .ok (.aload_n 0, 1) := by decide +kernel
theorem dX8_takes_93 : decode cX8_takes 93 = .ok (.getfield 84, 3) := by decide +kernel
theorem dX8_takes_96 : decode cX8_takes 96 = .ok (.iload 8, 2) := by decide +kernel
theorem dX8_takes_98 : decode cX8_takes 98 = .ok (.aload_n 0, 1) := by decide +kernel
theorem dX8_takes_99 : decode cX8_takes 99 = .ok (.getfield 84, 3) := by decide +kernel
theorem dX8_takes_102 : decode cX8_takes 102 = .ok (.iload 8, 2) := by decide +kernel
theorem dX8_takes_104 : decode cX8_takes 104 = .ok (.laload, 1) := by decide +kernel
theorem dX8_takes_105 : decode cX8_takes 105 = .ok (.lload 9, 2) := by decide +kernel
theorem dX8_takes_107 : decode cX8_takes 107 = .ok (.lsub, 1) := by decide +kernel
theorem dX8_takes_108 : decode cX8_takes 108 = .ok (.lastore, 1) := by decide +kernel
theorem dX8_takes_109 : decode cX8_takes 109 = .ok (.lload 4, 2) := by decide +kernel
theorem dX8_takes_111 : decode cX8_takes 111 = .ok (.lload 9, 2) := by decide +kernel
theorem dX8_takes_113 : decode cX8_takes 113 = .ok (.lsub, 1) := by decide +kernel
theorem dX8_takes_114 : decode cX8_takes 114 = .ok (.lstore 4, 2) := by decide +kernel
theorem dX8_takes_116 : decode cX8_takes 116 = .ok (.iinc 7 1, 3) := by decide +kernel
theorem dX8_takes_119 : decode cX8_takes 119 = .ok (.goto (-98), 3) := by decide +kernel
theorem dX8_takes_122 : decode cX8_takes 122 = .ok (.iinc 6 1, 3) := by decide +kernel
theorem dX8_takes_125 : decode cX8_takes 125 = .ok (.goto (-114), 3) := by decide +kernel
theorem dX8_takes_128 : decode cX8_takes 128 = .ok (.aload_n 0, 1) := by decide +kernel
theorem dX8_takes_129 : decode cX8_takes 129 = .ok (.getfield 75, 3) := by decide +kernel
theorem dX8_takes_132 : decode cX8_takes 132 = .ok (.bipush 12, 2) := by decide +kernel
theorem dX8_takes_134 : decode cX8_takes 134 = .ok (.iload_n 1, 1) := by decide +kernel
theorem dX8_takes_135 : decode cX8_takes 135 = .ok (.imul, 1) := by decide +kernel
theorem dX8_takes_136 : decode cX8_takes 136 = .ok (.iload_n 2, 1) := by decide +kernel
theorem dX8_takes_137 : decode cX8_takes 137 = .ok (.iadd, 1) := by decide +kernel
theorem dX8_takes_138 : decode cX8_takes 138 = .ok (.aload_n 0, 1) := by decide +kernel
theorem dX8_takes_139 : decode cX8_takes 139 = .ok (.getfield 75, 3) := by decide +kernel
theorem dX8_takes_142 : decode cX8_takes 142 = .ok (.bipush 12, 2) := by decide +kernel
theorem dX8_takes_144 : decode cX8_takes 144 = .ok (.iload_n 1, 1) := by decide +kernel
end
section
theorem dX8_takes_145 : decode cX8_takes 145 = .ok (.imul, 1) := by decide +kernel
theorem dX8_takes_146 : decode cX8_takes 146 = .ok (.iload_n 2, 1) := by decide +kernel
theorem dX8_takes_147 : decode cX8_takes 147 = .ok (.iadd, 1) := by decide +kernel
theorem dX8_takes_148 : decode cX8_takes 148 = .ok (.laload, 1) := by decide +kernel
theorem dX8_takes_149 : decode cX8_takes 149 = .ok (.lload 4, 2) := by decide +kernel
theorem dX8_takes_151 : decode cX8_takes 151 = .ok (.ladd, 1) := by decide +kernel
theorem dX8_takes_152 : decode cX8_takes 152 = .ok (.lastore, 1) := by decide +kernel
theorem dX8_takes_153 : decode cX8_takes 153 = .ok (.lload 4, 2) := by decide +kernel
theorem dX8_takes_155 : decode cX8_takes 155 = .ok (.lreturn, 1) := by decide +kernel
set_option maxRecDepth 20000 in
theorem ggX8_sent_X8_isHand : GoodIn wsX8_sent wsX8_isHand := goodIn_r _ [13] (by decide +kernel) (by decide +kernel)
set_option maxRecDepth 20000 in
theorem gX8_sent_X8_isHand : GoodIn wsX8_sent (va_wsS RX8 132 yX8_isHand wsX8_isHand) := goodIn_app (goodIn_of _ (by decide +kernel)) ggX8_sent_X8_isHand
set_option maxRecDepth 20000 in
theorem ggX8_sent_X8_takes : GoodIn wsX8_sent wsX8_takes := goodIn_r _ [17, 9, 18, 19, 20, 21, 22, 23, 24, 12, 25, 26, 27, 28, 29, 30, 31, 32, 33, 34, 35, 36, 37, 38, 39, 40, 41, 42, 43, 44, 45, 46, 47, 48, 49, 50, 51, 52, 53, 54, 55, 56, 57, 58, 59, 60, 61, 62, 63, 64, 65, 66, 67, 68, 69, 70, 71, 72] (by decide +kernel) (by decide +kernel)
set_option maxRecDepth 20000 in
theorem gX8_sent_X8_takes : GoodIn wsX8_sent (wsV RX8 233 RX8 yX8_takes wsX8_takes) := goodIn_app (goodIn_of _ (by decide +kernel)) ggX8_sent_X8_takes
theorem dX8_sent_0 : decode cX8_sent 0 = .ok (.iload_n 1, 1) := by decide +kernel
theorem dX8_sent_1 : decode cX8_sent 1 = .ok (.invokestatic 132, 3) := by decide +kernel
theorem dX8_sent_4 : decode cX8_sent 4 = .ok (.ifCond .eq 23, 3) := by decide +kernel
theorem dX8_sent_7 : decode cX8_sent 7 = .ok (.iload_n 2, 1) := by decide +kernel
theorem dX8_sent_8 : decode cX8_sent 8 = .ok (.iconst 1, 1) := by decide +kernel
theorem dX8_sent_9 : decode cX8_sent 9 = .ok (.if_icmp .lt 18, 3) := by decide +kernel
theorem dX8_sent_12 : decode cX8_sent 12 = .ok (.iload_n 2, 1) := by decide +kernel
theorem dX8_sent_13 : decode cX8_sent 13 = .ok (.ldc 150, 2) := by decide +kernel
theorem dX8_sent_15 : decode cX8_sent 15 = .ok (.if_icmp .gt 12, 3) := by decide +kernel
theorem dX8_sent_18 : decode cX8_sent 18 = .ok (.aload_n 0, 1) := by decide +kernel
theorem dX8_sent_19 : decode cX8_sent 19 = .ok (.getfield 224, 3) := by decide +kernel
theorem dX8_sent_22 : decode cX8_sent 22 = .ok (.bipush 60, 2) := by decide +kernel
theorem dX8_sent_24 : decode cX8_sent 24 = .ok (.if_icmp .ne 7, 3) := by decide +kernel
theorem dX8_sent_27 : decode cX8_sent 27 = .ok (.ldc2_w 227, 3) := by decide +kernel
theorem dX8_sent_30 : decode cX8_sent 30 = .ok (.lreturn, 1) := by decide +kernel
theorem dX8_sent_31 : decode cX8_sent 31 = .ok (.aload_n 0, 1) := by decide +kernel
theorem dX8_sent_32 : decode cX8_sent 32 = .ok (.getfield 123, 3) := by decide +kernel
theorem dX8_sent_35 : decode cX8_sent 35 = .ok (.aload_n 0, 1) := by decide +kernel
theorem dX8_sent_36 : decode cX8_sent 36 = .ok (.getfield 224, 3) := by decide +kernel
theorem dX8_sent_39 : decode cX8_sent 39 = .ok (.iload_n 1, 1) := by decide +kernel
theorem dX8_sent_40 : decode cX8_sent 40 = .ok (.iastore, 1) := by decide +kernel
theorem dX8_sent_41 : decode cX8_sent 41 = .ok (.aload_n 0, 1) := by decide +kernel
theorem dX8_sent_42 : decode cX8_sent 42 = .ok (.getfield 126, 3) := by decide +kernel
theorem dX8_sent_45 : decode cX8_sent 45 = .ok (.aload_n 0, 1) := by decide +kernel
theorem dX8_sent_46 : decode cX8_sent 46 = .ok (.getfield 224, 3) := by decide +kernel
theorem dX8_sent_49 : decode cX8_sent 49 = .ok (.iload_n 2, 1) := by decide +kernel
theorem dX8_sent_50 : decode cX8_sent 50 = .ok (.iastore, 1) := by decide +kernel
theorem dX8_sent_51 : decode cX8_sent 51 = .ok (.aload_n 0, 1) := by decide +kernel
theorem dX8_sent_52 : decode cX8_sent 52 = .ok (.getfield 129, 3) := by decide +kernel
theorem dX8_sent_55 : decode cX8_sent 55 = .ok (.aload_n 0, 1) := by decide +kernel
theorem dX8_sent_56 : decode cX8_sent 56 = .ok (.getfield 224, 3) := by decide +kernel
theorem dX8_sent_59 : decode cX8_sent 59 = .ok (.aload_n 0, 1) := by decide +kernel
theorem dX8_sent_60 : decode cX8_sent 60 = .ok (.getfield 136, 3) := by decide +kernel
theorem dX8_sent_63 : decode cX8_sent 63 = .ok (.iastore, 1) := by decide +kernel
theorem dX8_sent_64 : decode cX8_sent 64 = .ok (.aload_n 0, 1) := by decide +kernel
theorem dX8_sent_65 : decode cX8_sent 65 = .ok (.aload_n 0, 1) := by decide +kernel
theorem dX8_sent_66 : decode cX8_sent 66 = .ok (.getfield 224, 3) := by decide +kernel
theorem dX8_sent_69 : decode cX8_sent 69 = .ok (.iconst 1, 1) := by decide +kernel
theorem dX8_sent_70 : decode cX8_sent 70 = .ok (.iadd, 1) := by decide +kernel
theorem dX8_sent_71 : decode cX8_sent 71 = .ok (.putfield 224, 3) := by decide +kernel
theorem dX8_sent_74 : decode cX8_sent 74 = .ok (.aload_n 0, 1) := by decide +kernel
theorem dX8_sent_75 : decode cX8_sent 75 = .ok (.aload_n 0, 1) := by decide +kernel
theorem dX8_sent_76 : decode cX8_sent 76 = .ok (.getfield 229, 3) := by decide +kernel
theorem dX8_sent_79 : decode cX8_sent 79 = .ok (.iload_n 2, 1) := by decide +kernel
theorem dX8_sent_80 : decode cX8_sent 80 = .ok (.i2l, 1) := by decide +kernel
theorem dX8_sent_81 : decode cX8_sent 81 = .ok (.ldc2_w 194, 3) := by decide +kernel
theorem dX8_sent_84 : decode cX8_sent 84 = .ok (.lmul, 1) := by decide +kernel
theorem dX8_sent_85 : decode cX8_sent 85 = .ok (.ladd, 1) := by decide +kernel
theorem dX8_sent_86 : decode cX8_sent 86 = .ok (.putfield 229, 3) := by decide +kernel
theorem dX8_sent_89 : decode cX8_sent 89 = .ok (.aload_n 0, 1) := by decide +kernel
theorem dX8_sent_90 : decode cX8_sent 90 = .ok (.iconst 0, 1) := by decide +kernel
theorem dX8_sent_91 : decode cX8_sent 91 = .ok (.iload_n 1, 1) := by decide +kernel
theorem dX8_sent_92 : decode cX8_sent 92 = .ok (.iload_n 2, 1) := by decide +kernel
theorem dX8_sent_93 : decode cX8_sent 93 = .ok (.invokevirtual 233, 3) := by decide +kernel
theorem dX8_sent_96 : decode cX8_sent 96 = .ok (.lreturn, 1) := by decide +kernel
set_option maxRecDepth 20000 in
theorem ggX8_sentIn_X8_takes : GoodIn wsX8_sentIn wsX8_takes := goodIn_r _ [9, 10, 11, 12, 13, 14, 15, 16, 17, 8, 18, 19, 20, 21, 22, 23, 24, 25, 26, 27, 28, 29, 30, 31, 32, 33, 34, 35, 36, 37, 38, 39, 40, 41, 42, 43, 44, 45, 46, 47, 48, 49, 50, 51, 52, 53, 54, 55, 56, 57, 58, 59, 60, 61, 62, 63, 64, 65] (by decide +kernel) (by decide +kernel)
set_option maxRecDepth 20000 in
theorem gX8_sentIn_X8_takes : GoodIn wsX8_sentIn (wsV RX8 233 RX8 yX8_takes wsX8_takes) := goodIn_app (goodIn_of _ (by decide +kernel)) ggX8_sentIn_X8_takes
theorem dX8_sentIn_0 : decode cX8_sentIn 0 = .ok (.iconst 0, 1) := by decide +kernel
theorem dX8_sentIn_1 : decode cX8_sentIn 1 = .ok (.istore_n 2, 1) := by decide +kernel
theorem dX8_sentIn_2 : decode cX8_sentIn 2 = .ok (.iload_n 2, 1) := by decide +kernel
theorem dX8_sentIn_3 : decode cX8_sentIn 3 = .ok (.aload_n 0, 1) := by decide +kernel
theorem dX8_sentIn_4 : decode cX8_sentIn 4 = .ok (.getfield 224, 3) := by decide +kernel
theorem dX8_sentIn_7 : decode cX8_sentIn 7 = .ok (.if_icmp .ge 37, 3) := by decide +kernel
theorem dX8_sentIn_10 : decode cX8_sentIn 10 = .ok (.aload_n 0, 1) := by decide +kernel
theorem dX8_sentIn_11 : decode cX8_sentIn 11 = .ok (.getfield 129, 3) := by decide +kernel
theorem dX8_sentIn_14 : decode cX8_sentIn 14 = .ok (.iload_n 2, 1) := by decide +kernel
theorem dX8_sentIn_15 : decode cX8_sentIn 15 = .ok (.iaload, 1) := by decide +kernel
theorem dX8_sentIn_16 : decode cX8_sentIn 16 = .ok (.iload_n 1, 1) := by decide +kernel
theorem dX8_sentIn_17 : decode cX8_sentIn 17 = .ok (.if_icmp .ne 21, 3) := by decide +kernel
theorem dX8_sentIn_20 : decode cX8_sentIn 20 = .ok (.aload_n 0, 1) := by decide +kernel
theorem dX8_sentIn_21 : decode cX8_sentIn 21 = .ok (.iconst 1, 1) := by decide +kernel
theorem dX8_sentIn_22 : decode cX8_sentIn 22 = .ok (.aload_n 0, 1) := by decide +kernel
theorem dX8_sentIn_23 : decode cX8_sentIn 23 = .ok (.getfield 123, 3) := by decide +kernel
theorem dX8_sentIn_26 : decode cX8_sentIn 26 = .ok (.iload_n 2, 1) := by decide +kernel
theorem dX8_sentIn_27 : decode cX8_sentIn 27 = .ok (.iaload, 1) := by decide +kernel
theorem dX8_sentIn_28 : decode cX8_sentIn 28 = .ok (.aload_n 0, 1) := by decide +kernel
theorem dX8_sentIn_29 : decode cX8_sentIn 29 = .ok (.getfield 126, 3) := by decide +kernel
theorem dX8_sentIn_32 : decode cX8_sentIn 32 = .ok (.iload_n 2, 1) := by decide +kernel
theorem dX8_sentIn_33 : decode cX8_sentIn 33 = .ok (.iaload, 1) := by decide +kernel
theorem dX8_sentIn_34 : decode cX8_sentIn 34 = .ok (.invokevirtual 233, 3) := by decide +kernel
theorem dX8_sentIn_37 : decode cX8_sentIn 37 = .ok (.pop2, 1) := by decide +kernel
theorem dX8_sentIn_38 : decode cX8_sentIn 38 = .ok (.iinc 2 1, 3) := by decide +kernel
theorem dX8_sentIn_41 : decode cX8_sentIn 41 = .ok (.goto (-39), 3) := by decide +kernel
theorem dX8_sentIn_44 : decode cX8_sentIn 44 = .ok (.return_, 1) := by decide +kernel
set_option maxRecDepth 20000 in
theorem ggX8_anew_X8_empties : GoodIn wsX8_anew wsX8_empties := goodIn_r _ [6, 7, 8, 9, 10, 11, 12, 13, 14, 103, 104, 105, 106, 107, 108, 109, 110, 111, 112, 113, 114, 115, 116, 117, 118, 119, 120, 121, 122, 123, 124, 125, 126, 127, 128, 129, 130, 131, 132, 133, 134, 135, 136, 137, 138, 139, 140, 141, 142, 143, 144, 145, 146, 147, 148, 149] (by decide +kernel) (by decide +kernel)
set_option maxRecDepth 20000 in
theorem gX8_anew_X8_empties : GoodIn wsX8_anew (wsV RX8 237 RX8 yX8_empties wsX8_empties) := goodIn_app (goodIn_of _ (by decide +kernel)) ggX8_anew_X8_empties
set_option maxRecDepth 20000 in
theorem ggX8_anew_X8_sentIn : GoodIn wsX8_anew wsX8_sentIn := goodIn_r _ [18, 19, 20, 21, 22, 23, 24, 25, 5, 26, 27, 28, 29, 30, 12, 8, 31, 32, 33, 103, 104, 105, 106, 107, 108, 109, 110, 111, 112, 113, 114, 115, 116, 117, 118, 119, 120, 121, 122, 123, 124, 125, 126, 127, 128, 129, 130, 131, 132, 133, 134, 135, 136, 137, 138, 139, 140, 141, 142, 143, 144, 145, 146, 147, 148, 149] (by decide +kernel) (by decide +kernel)
set_option maxRecDepth 20000 in
theorem gX8_anew_X8_sentIn : GoodIn wsX8_anew (wsV RX8 240 RX8 yX8_sentIn wsX8_sentIn) := goodIn_app (goodIn_of _ (by decide +kernel)) ggX8_anew_X8_sentIn
set_option maxRecDepth 20000 in
theorem ggX8_anew_X8_closes : GoodIn wsX8_anew wsX8_closes := goodIn_r _ [37, 38, 39, 40, 41, 42, 43, 28, 29, 44, 30, 7, 12, 45, 46, 47, 48, 5, 49, 50, 51, 52, 53, 54, 55, 56, 57, 58, 59, 60, 61, 62, 63, 64, 65, 66, 67, 68, 69, 14, 70, 71, 72, 73, 74, 75, 76, 77, 78, 79, 80, 81, 82, 83, 84, 85, 86, 87, 88, 89, 27, 11, 90, 10, 91, 31, 32, 33, 92, 93, 94, 95, 8, 13, 96, 97, 98, 99, 100, 101, 102, 9, 103, 104, 105, 106, 107, 108, 109, 110, 111, 112, 113, 114, 115, 116, 117, 118, 119, 120, 121, 122, 123, 124, 125, 126, 127, 128, 129, 130, 131, 132, 133, 134, 135, 136, 137, 138, 139, 140, 141, 142, 143, 144, 145, 146, 147, 148, 149] (by decide +kernel) (by decide +kernel)
set_option maxRecDepth 20000 in
theorem gX8_anew_X8_closes : GoodIn wsX8_anew (wsV RX8 220 RX8 yX8_closes wsX8_closes) := goodIn_app (goodIn_of _ (by decide +kernel)) ggX8_anew_X8_closes
theorem dX8_anew_0 : decode cX8_anew 0 = .ok (.aload_n 0, 1) := by decide +kernel
theorem dX8_anew_1 : decode cX8_anew 1 = .ok (.invokevirtual 237, 3) := by decide +kernel
theorem dX8_anew_4 : decode cX8_anew 4 = .ok (.iconst 0, 1) := by decide +kernel
theorem dX8_anew_5 : decode cX8_anew 5 = .ok (.istore_n 1, 1) := by decide +kernel
theorem dX8_anew_6 : decode cX8_anew 6 = .ok (.iload_n 1, 1) := by decide +kernel
theorem dX8_anew_7 : decode cX8_anew 7 = .ok (.aload_n 0, 1) := by decide +kernel
theorem dX8_anew_8 : decode cX8_anew 8 = .ok (.getfield 136, 3) := by decide +kernel
theorem dX8_anew_11 : decode cX8_anew 11 = .ok (.if_icmp .ge 20, 3) := by decide +kernel
theorem dX8_anew_14 : decode cX8_anew 14 = .ok (.aload_n 0, 1) := by decide +kernel
theorem dX8_anew_15 : decode cX8_anew 15 = .ok (.iload_n 1, 1) := by decide +kernel
theorem dX8_anew_16 : decode cX8_anew 16 = .ok (.invokevirtual 240, 3) := by decide +kernel
theorem dX8_anew_19 : decode cX8_anew 19 = .ok (.aload_n 0, 1) := by decide +kernel
theorem dX8_anew_20 : decode cX8_anew 20 = .ok (.iconst 1, 1) := by decide +kernel
theorem dX8_anew_21 : decode cX8_anew 21 = .ok (.iload_n 1, 1) := by decide +kernel
theorem dX8_anew_22 : decode cX8_anew 22 = .ok (.invokevirtual 220, 3) := by decide +kernel
theorem dX8_anew_25 : decode cX8_anew 25 = .ok (.iinc 1 1, 3) := by decide +kernel
theorem dX8_anew_28 : decode cX8_anew 28 = .ok (.goto (-22), 3) := by decide +kernel
theorem dX8_anew_31 : decode cX8_anew 31 = .ok (.aload_n 0, 1) := by decide +kernel
theorem dX8_anew_32 : decode cX8_anew 32 = .ok (.aload_n 0, 1) := by decide +kernel
theorem dX8_anew_33 : decode cX8_anew 33 = .ok (.getfield 136, 3) := by decide +kernel
theorem dX8_anew_36 : decode cX8_anew 36 = .ok (.invokevirtual 240, 3) := by decide +kernel
theorem dX8_anew_39 : decode cX8_anew 39 = .ok (.return_, 1) := by decide +kernel
set_option maxRecDepth 20000 in
theorem ggX8_duesOf_X8_dueAt : GoodIn wsX8_duesOf wsX8_dueAt := goodIn_r _ [5] (by decide +kernel) (by decide +kernel)
set_option maxRecDepth 20000 in
theorem gX8_duesOf_X8_dueAt : GoodIn wsX8_duesOf (va_wsS RX8 217 yX8_dueAt wsX8_dueAt) := goodIn_app (goodIn_of _ (by decide +kernel)) ggX8_duesOf_X8_dueAt
theorem dX8_duesOf_0 : decode cX8_duesOf 0 = .ok (.lconst 0, 1) := by decide +kernel
theorem dX8_duesOf_1 : decode cX8_duesOf 1 = .ok (.lstore_n 3, 1) := by decide +kernel
theorem dX8_duesOf_2 : decode cX8_duesOf 2 = .ok (.iconst 0, 1) := by decide +kernel
theorem dX8_duesOf_3 : decode cX8_duesOf 3 = .ok (.istore 5, 2) := by decide +kernel
theorem dX8_duesOf_5 : decode cX8_duesOf 5 = .ok (.iload 5, 2) := by decide +kernel
theorem dX8_duesOf_7 : decode cX8_duesOf 7 = .ok (.bipush 40, 2) := by decide +kernel
theorem dX8_duesOf_9 : decode cX8_duesOf 9 = .ok (.if_icmp .ge 25, 3) := by decide +kernel
theorem dX8_duesOf_12 : decode cX8_duesOf 12 = .ok (.lload_n 3, 1) := by decide +kernel
theorem dX8_duesOf_13 : decode cX8_duesOf 13 = .ok (.aload_n 0, 1) := by decide +kernel
theorem dX8_duesOf_14 : decode cX8_duesOf 14 = .ok (.getfield 87, 3) := by decide +kernel
theorem dX8_duesOf_17 : decode cX8_duesOf 17 = .ok (.iload_n 1, 1) := by decide +kernel
theorem dX8_duesOf_18 : decode cX8_duesOf 18 = .ok (.iload_n 2, 1) := by decide +kernel
theorem dX8_duesOf_19 : decode cX8_duesOf 19 = .ok (.iload 5, 2) := by decide +kernel
theorem dX8_duesOf_21 : decode cX8_duesOf 21 = .ok (.invokestatic 217, 3) := by decide +kernel
theorem dX8_duesOf_24 : decode cX8_duesOf 24 = .ok (.iaload, 1) := by decide +kernel
theorem dX8_duesOf_25 : decode cX8_duesOf 25 = .ok (.i2l, 1) := by decide +kernel
theorem dX8_duesOf_26 : decode cX8_duesOf 26 = .ok (.ladd, 1) := by decide +kernel
theorem dX8_duesOf_27 : decode cX8_duesOf 27 = .ok (.lstore_n 3, 1) := by decide +kernel
theorem dX8_duesOf_28 : decode cX8_duesOf 28 = .ok (.iinc 5 1, 3) := by decide +kernel
theorem dX8_duesOf_31 : decode cX8_duesOf 31 = .ok (.goto (-26), 3) := by decide +kernel
theorem dX8_duesOf_34 : decode cX8_duesOf 34 = .ok (.lload_n 3, 1) := by decide +kernel
theorem dX8_duesOf_35 : decode cX8_duesOf 35 = .ok (.lreturn, 1) := by decide +kernel
set_option maxRecDepth 20000 in
theorem ggX8_worth_X8_duesOf : GoodIn wsX8_worth wsX8_duesOf := goodIn_r _ [8, 9, 10, 11, 7, 12, 13, 14, 15, 16, 17, 18, 19, 20, 21, 22, 23, 24, 25, 26, 27, 28, 29, 30, 31, 32, 33, 34, 35, 36, 37, 38, 39, 40, 41, 42, 43, 44, 45, 46, 47, 48, 49, 50, 51, 52, 53, 54, 55, 56, 57, 58, 59] (by decide +kernel) (by decide +kernel)
set_option maxRecDepth 20000 in
theorem gX8_worth_X8_duesOf : GoodIn wsX8_worth (wsV RX8 244 RX8 yX8_duesOf wsX8_duesOf) := goodIn_app (goodIn_of _ (by decide +kernel)) ggX8_worth_X8_duesOf
theorem dX8_worth_0 : decode cX8_worth 0 = .ok (.aload_n 0, 1) := by decide +kernel
theorem dX8_worth_1 : decode cX8_worth 1 = .ok (.iload_n 1, 1) := by decide +kernel
theorem dX8_worth_2 : decode cX8_worth 2 = .ok (.iload_n 2, 1) := by decide +kernel
theorem dX8_worth_3 : decode cX8_worth 3 = .ok (.invokevirtual 244, 3) := by decide +kernel
theorem dX8_worth_6 : decode cX8_worth 6 = .ok (.ldc2_w 194, 3) := by decide +kernel
theorem dX8_worth_9 : decode cX8_worth 9 = .ok (.lmul, 1) := by decide +kernel
theorem dX8_worth_10 : decode cX8_worth 10 = .ok (.aload_n 0, 1) := by decide +kernel
theorem dX8_worth_11 : decode cX8_worth 11 = .ok (.getfield 71, 3) := by decide +kernel
theorem dX8_worth_14 : decode cX8_worth 14 = .ok (.bipush 12, 2) := by decide +kernel
theorem dX8_worth_16 : decode cX8_worth 16 = .ok (.iload_n 1, 1) := by decide +kernel
theorem dX8_worth_17 : decode cX8_worth 17 = .ok (.imul, 1) := by decide +kernel
theorem dX8_worth_18 : decode cX8_worth 18 = .ok (.iload_n 2, 1) := by decide +kernel
theorem dX8_worth_19 : decode cX8_worth 19 = .ok (.iadd, 1) := by decide +kernel
theorem dX8_worth_20 : decode cX8_worth 20 = .ok (.laload, 1) := by decide +kernel
theorem dX8_worth_21 : decode cX8_worth 21 = .ok (.ladd, 1) := by decide +kernel
theorem dX8_worth_22 : decode cX8_worth 22 = .ok (.aload_n 0, 1) := by decide +kernel
theorem dX8_worth_23 : decode cX8_worth 23 = .ok (.getfield 75, 3) := by decide +kernel
theorem dX8_worth_26 : decode cX8_worth 26 = .ok (.bipush 12, 2) := by decide +kernel
theorem dX8_worth_28 : decode cX8_worth 28 = .ok (.iload_n 1, 1) := by decide +kernel
theorem dX8_worth_29 : decode cX8_worth 29 = .ok (.imul, 1) := by decide +kernel
theorem dX8_worth_30 : decode cX8_worth 30 = .ok (.iload_n 2, 1) := by decide +kernel
theorem dX8_worth_31 : decode cX8_worth 31 = .ok (.iadd, 1) := by decide +kernel
theorem dX8_worth_32 : decode cX8_worth 32 = .ok (.laload, 1) := by decide +kernel
theorem dX8_worth_33 : decode cX8_worth 33 = .ok (.lsub, 1) := by decide +kernel
theorem dX8_worth_34 : decode cX8_worth 34 = .ok (.lreturn, 1) := by decide +kernel
set_option maxRecDepth 20000 in
theorem ggX8_owed_X8_worth : GoodIn wsX8_owed wsX8_worth := goodIn_r _ [5, 6, 7, 8, 9, 10, 11, 4, 12, 13, 14, 15, 16, 17, 18, 19, 20, 21, 22, 23, 24, 25, 26, 27, 28, 29, 30, 31, 32, 33, 34, 35, 36, 37, 38, 39, 40, 41, 42, 43, 44, 45, 46, 47, 48, 49, 50, 51, 52, 53, 54, 55, 56, 57, 58, 59, 60, 61, 62, 63] (by decide +kernel) (by decide +kernel)
set_option maxRecDepth 20000 in
theorem gX8_owed_X8_worth : GoodIn wsX8_owed (wsV RX8 248 RX8 yX8_worth wsX8_worth) := goodIn_app (goodIn_of _ (by decide +kernel)) ggX8_owed_X8_worth
theorem dX8_owed_0 : decode cX8_owed 0 = .ok (.aload_n 0, 1) := by decide +kernel
theorem dX8_owed_1 : decode cX8_owed 1 = .ok (.iconst 1, 1) := by decide +kernel
theorem dX8_owed_2 : decode cX8_owed 2 = .ok (.iload_n 1, 1) := by decide +kernel
theorem dX8_owed_3 : decode cX8_owed 3 = .ok (.invokevirtual 248, 3) := by decide +kernel
theorem dX8_owed_6 : decode cX8_owed 6 = .ok (.aload_n 0, 1) := by decide +kernel
theorem dX8_owed_7 : decode cX8_owed 7 = .ok (.iconst 0, 1) := by decide +kernel
theorem dX8_owed_8 : decode cX8_owed 8 = .ok (.iload_n 1, 1) := by decide +kernel
theorem dX8_owed_9 : decode cX8_owed 9 = .ok (.invokevirtual 248, 3) := by decide +kernel
theorem dX8_owed_12 : decode cX8_owed 12 = .ok (.lsub, 1) := by decide +kernel
theorem dX8_owed_13 : decode cX8_owed 13 = .ok (.lreturn, 1) := by decide +kernel
set_option maxRecDepth 20000 in
theorem ggX8_owe_X8_anew : GoodIn wsX8_owe wsX8_anew := goodIn_r _ [5, 6, 7, 8, 9, 4, 10, 11, 12, 13, 14, 15, 16, 17, 18, 19, 20, 21, 22, 23, 24, 25, 26, 27, 28, 29, 30, 31, 32, 33, 34, 35, 36, 37, 38, 39, 40, 41, 42, 43, 44, 45, 46, 47, 48, 49, 50, 51, 52, 53, 54, 55, 56, 57, 58, 59, 60, 61, 62, 63, 64, 65, 66, 67, 68, 69, 70, 71, 72, 73, 74, 75, 76, 77, 78, 79, 80, 81, 82, 83, 84, 85, 86, 87, 88, 89, 90, 91, 92, 93, 94, 95, 96, 97, 98, 99, 100, 101, 102, 103, 104, 105, 106, 119, 120, 121, 122, 123, 124, 125, 126, 127, 128, 129, 130, 131, 132, 133, 134, 135, 136, 137, 138, 139, 140, 141, 142, 143, 144, 145, 146, 147, 148, 149, 150, 151, 152, 153, 154, 155, 156, 157, 158, 159, 160, 161, 162, 163, 164, 165] (by decide +kernel) (by decide +kernel)
set_option maxRecDepth 20000 in
theorem gX8_owe_X8_anew : GoodIn wsX8_owe (wsV RX8 251 RX8 yX8_anew wsX8_anew) := goodIn_app (goodIn_of _ (by decide +kernel)) ggX8_owe_X8_anew
set_option maxRecDepth 20000 in
theorem ggX8_owe_X8_owed : GoodIn wsX8_owe wsX8_owed := goodIn_r _ [110, 111, 112, 113, 4, 114, 31, 11, 12, 115, 116, 117, 118, 17, 100, 101, 102, 119, 120, 121, 122, 123, 124, 125, 126, 127, 128, 129, 130, 131, 132, 133, 134, 135, 136, 137, 138, 139, 140, 141, 142, 143, 144, 145, 146, 147, 148, 149, 150, 151, 152, 153, 154, 155, 156, 157, 158, 159, 160, 161, 162, 163, 164, 165] (by decide +kernel) (by decide +kernel)
set_option maxRecDepth 20000 in
theorem gX8_owe_X8_owed : GoodIn wsX8_owe (wsV RX8 254 RX8 yX8_owed wsX8_owed) := goodIn_app (goodIn_of _ (by decide +kernel)) ggX8_owe_X8_owed
theorem dX8_owe_0 : decode cX8_owe 0 = .ok (.aload_n 0, 1) := by decide +kernel
theorem dX8_owe_1 : decode cX8_owe 1 = .ok (.invokevirtual 251, 3) := by decide +kernel
theorem dX8_owe_4 : decode cX8_owe 4 = .ok (.lconst 0, 1) := by decide +kernel
theorem dX8_owe_5 : decode cX8_owe 5 = .ok (.lstore_n 1, 1) := by decide +kernel
theorem dX8_owe_6 : decode cX8_owe 6 = .ok (.iconst 0, 1) := by decide +kernel
theorem dX8_owe_7 : decode cX8_owe 7 = .ok (.istore_n 3, 1) := by decide +kernel
theorem dX8_owe_8 : decode cX8_owe 8 = .ok (.iload_n 3, 1) := by decide +kernel
theorem dX8_owe_9 : decode cX8_owe 9 = .ok (.bipush 12, 2) := by decide +kernel
theorem dX8_owe_11 : decode cX8_owe 11 = .ok (.if_icmp .ge 17, 3) := by decide +kernel
theorem dX8_owe_14 : decode cX8_owe 14 = .ok (.lload_n 1, 1) := by decide +kernel
theorem dX8_owe_15 : decode cX8_owe 15 = .ok (.aload_n 0, 1) := by decide +kernel
theorem dX8_owe_16 : decode cX8_owe 16 = .ok (.iload_n 3, 1) := by decide +kernel
theorem dX8_owe_17 : decode cX8_owe 17 = .ok (.invokevirtual 254, 3) := by decide +kernel
theorem dX8_owe_20 : decode cX8_owe 20 = .ok (.ladd, 1) := by decide +kernel
theorem dX8_owe_21 : decode cX8_owe 21 = .ok (.lstore_n 1, 1) := by decide +kernel
theorem dX8_owe_22 : decode cX8_owe 22 = .ok (.iinc 3 1, 3) := by decide +kernel
theorem dX8_owe_25 : decode cX8_owe 25 = .ok (.goto (-17), 3) := by decide +kernel
theorem dX8_owe_28 : decode cX8_owe 28 = .ok (.lload_n 1, 1) := by decide +kernel
theorem dX8_owe_29 : decode cX8_owe 29 = .ok (.lreturn, 1) := by decide +kernel
set_option maxRecDepth 20000 in
theorem ggX8_settle_X8_anew : GoodIn wsX8_settle wsX8_anew := goodIn_r _ [13, 14, 15, 16, 17, 12, 18, 1, 2, 3, 4, 5, 6, 19, 7, 20, 21, 22, 23, 24, 25, 26, 27, 28, 29, 30, 31, 32, 33, 34, 35, 36, 37, 38, 39, 40, 41, 42, 43, 44, 45, 46, 47, 48, 49, 50, 51, 52, 53, 54, 55, 56, 57, 58, 59, 60, 61, 62, 63, 64, 65, 66, 67, 68, 69, 70, 71, 72, 73, 74, 75, 76, 77, 78, 79, 80, 81, 82, 83, 84, 85, 86, 87, 88, 89, 90, 91, 92, 93, 94, 95, 96, 97, 98, 99, 100, 101, 102, 103, 104, 105, 106, 107, 120, 121, 122, 123, 124, 125, 126, 127, 128, 129, 130, 131, 132, 133, 134, 135, 136, 137, 138, 139, 140, 141, 142, 143, 144, 145, 146, 147, 148, 149, 150, 151, 152, 153, 154, 155, 156, 157, 158, 159, 160, 161, 162, 163, 164, 165, 166] (by decide +kernel) (by decide +kernel)
set_option maxRecDepth 20000 in
theorem gX8_settle_X8_anew : GoodIn wsX8_settle (wsV RX8 251 RX8 yX8_anew wsX8_anew) := goodIn_app (goodIn_of _ (by decide +kernel)) ggX8_settle_X8_anew
set_option maxRecDepth 20000 in
theorem ggX8_settle_X8_owed : GoodIn wsX8_settle wsX8_owed := goodIn_r _ [111, 112, 113, 114, 12, 115, 32, 1, 2, 116, 117, 118, 119, 19, 101, 102, 103, 120, 121, 122, 123, 124, 125, 126, 127, 128, 129, 130, 131, 132, 133, 134, 135, 136, 137, 138, 139, 140, 141, 142, 143, 144, 145, 146, 147, 148, 149, 150, 151, 152, 153, 154, 155, 156, 157, 158, 159, 160, 161, 162, 163, 164, 165, 166] (by decide +kernel) (by decide +kernel)
set_option maxRecDepth 20000 in
theorem gX8_settle_X8_owed : GoodIn wsX8_settle (wsV RX8 254 RX8 yX8_owed wsX8_owed) := goodIn_app (goodIn_of _ (by decide +kernel)) ggX8_settle_X8_owed
theorem dX8_settle_0 : decode cX8_settle 0 = .ok (.aload_n 0, 1) := by decide +kernel
theorem dX8_settle_1 : decode cX8_settle 1 = .ok (.invokevirtual 251, 3) := by decide +kernel
theorem dX8_settle_4 : decode cX8_settle 4 = .ok (.iconst 0, 1) := by decide +kernel
theorem dX8_settle_5 : decode cX8_settle 5 = .ok (.istore_n 1, 1) := by decide +kernel
theorem dX8_settle_6 : decode cX8_settle 6 = .ok (.iconst 0, 1) := by decide +kernel
theorem dX8_settle_7 : decode cX8_settle 7 = .ok (.istore_n 2, 1) := by decide +kernel
theorem dX8_settle_8 : decode cX8_settle 8 = .ok (.iload_n 2, 1) := by decide +kernel
theorem dX8_settle_9 : decode cX8_settle 9 = .ok (.bipush 12, 2) := by decide +kernel
theorem dX8_settle_11 : decode cX8_settle 11 = .ok (.if_icmp .ge 90, 3) := by decide +kernel
theorem dX8_settle_14 : decode cX8_settle 14 = .ok (.aload_n 0, 1) := by decide +kernel
theorem dX8_settle_15 : decode cX8_settle 15 = .ok (.iload_n 2, 1) := by decide +kernel
theorem dX8_settle_16 : decode cX8_settle 16 = .ok (.invokevirtual 254, 3) := by decide +kernel
theorem dX8_settle_19 : decode cX8_settle 19 = .ok (.lstore_n 3, 1) := by decide +kernel
theorem dX8_settle_20 : decode cX8_settle 20 = .ok (.iload_n 1, 1) := by decide +kernel
theorem dX8_settle_21 : decode cX8_settle 21 = .ok (.lload_n 3, 1) := by decide +kernel
theorem dX8_settle_22 : decode cX8_settle 22 = .ok (.lconst 0, 1) := by decide +kernel
theorem dX8_settle_23 : decode cX8_settle 23 = .ok (.lcmp, 1) := by decide +kernel
theorem dX8_settle_24 : decode cX8_settle 24 = .ok (.ifCond .eq 7, 3) := by decide +kernel
theorem dX8_settle_27 : decode cX8_settle 27 = .ok (.iconst 1, 1) := by decide +kernel
theorem dX8_settle_28 : decode cX8_settle 28 = .ok (.goto 4, 3) := by decide +kernel
theorem dX8_settle_31 : decode cX8_settle 31 = .ok (.iconst 0, 1) := by decide +kernel
theorem dX8_settle_32 : decode cX8_settle 32 = .ok (.iadd, 1) := by decide +kernel
theorem dX8_settle_33 : decode cX8_settle 33 = .ok (.istore_n 1, 1) := by decide +kernel
theorem dX8_settle_34 : decode cX8_settle 34 = .ok (.aload_n 0, 1) := by decide +kernel
theorem dX8_settle_35 : decode cX8_settle 35 = .ok (.getfield 71, 3) := by decide +kernel
theorem dX8_settle_38 : decode cX8_settle 38 = .ok (.iload_n 2, 1) := by decide +kernel
theorem dX8_settle_39 : decode cX8_settle 39 = .ok (.aload_n 0, 1) := by decide +kernel
theorem dX8_settle_40 : decode cX8_settle 40 = .ok (.getfield 71, 3) := by decide +kernel
theorem dX8_settle_43 : decode cX8_settle 43 = .ok (.iload_n 2, 1) := by decide +kernel
theorem dX8_settle_44 : decode cX8_settle 44 = .ok (.laload, 1) := by decide +kernel
theorem dX8_settle_45 : decode cX8_settle 45 = .ok (.lload_n 3, 1) := by decide +kernel
theorem dX8_settle_46 : decode cX8_settle 46 = .ok (.ladd, 1) := by decide +kernel
theorem dX8_settle_47 : decode cX8_settle 47 = .ok (.aload_n 0, 1) := by decide +kernel
theorem dX8_settle_48 : decode cX8_settle 48 = .ok (.getfield 75, 3) := by decide +kernel
theorem dX8_settle_51 : decode cX8_settle 51 = .ok (.iload_n 2, 1) := by decide +kernel
theorem dX8_settle_52 : decode cX8_settle 52 = .ok (.laload, 1) := by decide +kernel
theorem dX8_settle_53 : decode cX8_settle 53 = .ok (.lsub, 1) := by decide +kernel
theorem dX8_settle_54 : decode cX8_settle 54 = .ok (.aload_n 0, 1) := by decide +kernel
theorem dX8_settle_55 : decode cX8_settle 55 = .ok (.getfield 75, 3) := by decide +kernel
theorem dX8_settle_58 : decode cX8_settle 58 = .ok (.bipush 12, 2) := by decide +kernel
theorem dX8_settle_60 : decode cX8_settle 60 = .ok (.iload_n 2, 1) := by decide +kernel
theorem dX8_settle_61 : decode cX8_settle 61 = .ok (.iadd, 1) := by decide +kernel
theorem dX8_settle_62 : decode cX8_settle 62 = .ok (.laload, 1) := by decide +kernel
theorem dX8_settle_63 : decode cX8_settle 63 = .ok (.ladd, 1) := by decide +kernel
theorem dX8_settle_64 : decode cX8_settle 64 = .ok (.lastore, 1) := by decide +kernel
theorem dX8_settle_65 : decode cX8_settle 65 = .ok (.aload_n 0, 1) := by decide +kernel
theorem dX8_settle_66 : decode cX8_settle 66 = .ok (.getfield 75, 3) := by decide +kernel
theorem dX8_settle_69 : decode cX8_settle 69 = .ok (.iload_n 2, 1) := by decide +kernel
theorem dX8_settle_70 : decode cX8_settle 70 = .ok (.aload_n 0, 1) := by decide +kernel
theorem dX8_settle_71 : decode cX8_settle 71 = .ok (.getfield 75, 3) := by decide +kernel
theorem dX8_settle_74 : decode cX8_settle 74 = .ok (.bipush 12, 2) := by decide +kernel
theorem dX8_settle_76 : decode cX8_settle 76 = .ok (.iload_n 2, 1) := by decide +kernel
theorem dX8_settle_77 : decode cX8_settle 77 = .ok (.iadd, 1) := by decide +kernel
theorem dX8_settle_78 : decode cX8_settle 78 = .ok (.laload, 1) := by decide +kernel
theorem dX8_settle_79 : decode cX8_settle 79 = .ok (.lastore, 1) := by decide +kernel
theorem dX8_settle_80 : decode cX8_settle 80 = .ok (.aload_n 0, 1) := by decide +kernel
theorem dX8_settle_81 : decode cX8_settle 81 = .ok (.getfield 90, 3) := by decide +kernel
theorem dX8_settle_84 : decode cX8_settle 84 = .ok (.iload_n 2, 1) := by decide +kernel
theorem dX8_settle_85 : decode cX8_settle 85 = .ok (.aload_n 0, 1) := by decide +kernel
theorem dX8_settle_86 : decode cX8_settle 86 = .ok (.getfield 90, 3) := by decide +kernel
theorem dX8_settle_89 : decode cX8_settle 89 = .ok (.bipush 12, 2) := by decide +kernel
theorem dX8_settle_91 : decode cX8_settle 91 = .ok (.iload_n 2, 1) := by decide +kernel
theorem dX8_settle_92 : decode cX8_settle 92 = .ok (.iadd, 1) := by decide +kernel
theorem dX8_settle_93 : decode cX8_settle 93 = .ok (.iaload, 1) := by decide +kernel
theorem dX8_settle_94 : decode cX8_settle 94 = .ok (.iastore, 1) := by decide +kernel
theorem dX8_settle_95 : decode cX8_settle 95 = .ok (.iinc 2 1, 3) := by decide +kernel
theorem dX8_settle_98 : decode cX8_settle 98 = .ok (.goto (-90), 3) := by decide +kernel
theorem dX8_settle_101 : decode cX8_settle 101 = .ok (.iconst 0, 1) := by decide +kernel
theorem dX8_settle_102 : decode cX8_settle 102 = .ok (.istore_n 2, 1) := by decide +kernel
theorem dX8_settle_103 : decode cX8_settle 103 = .ok (.iload_n 2, 1) := by decide +kernel
theorem dX8_settle_104 : decode cX8_settle 104 = .ok (.bipush 24, 2) := by decide +kernel
theorem dX8_settle_106 : decode cX8_settle 106 = .ok (.if_icmp .ge 39, 3) := by decide +kernel
theorem dX8_settle_109 : decode cX8_settle 109 = .ok (.aload_n 0, 1) := by decide +kernel
theorem dX8_settle_110 : decode cX8_settle 110 = .ok (.getfield 78, 3) := by decide +kernel
theorem dX8_settle_113 : decode cX8_settle 113 = .ok (.iload_n 2, 1) := by decide +kernel
theorem dX8_settle_114 : decode cX8_settle 114 = .ok (.aload_n 0, 1) := by decide +kernel
theorem dX8_settle_115 : decode cX8_settle 115 = .ok (.getfield 78, 3) := by decide +kernel
theorem dX8_settle_118 : decode cX8_settle 118 = .ok (.bipush 24, 2) := by decide +kernel
theorem dX8_settle_120 : decode cX8_settle 120 = .ok (.iload_n 2, 1) := by decide +kernel
theorem dX8_settle_121 : decode cX8_settle 121 = .ok (.iadd, 1) := by decide +kernel
theorem dX8_settle_122 : decode cX8_settle 122 = .ok (.laload, 1) := by decide +kernel
theorem dX8_settle_123 : decode cX8_settle 123 = .ok (.lastore, 1) := by decide +kernel
theorem dX8_settle_124 : decode cX8_settle 124 = .ok (.aload_n 0, 1) := by decide +kernel
theorem dX8_settle_125 : decode cX8_settle 125 = .ok (.getfield 81, 3) := by decide +kernel
theorem dX8_settle_128 : decode cX8_settle 128 = .ok (.iload_n 2, 1) := by decide +kernel
theorem dX8_settle_129 : decode cX8_settle 129 = .ok (.aload_n 0, 1) := by decide +kernel
theorem dX8_settle_130 : decode cX8_settle 130 = .ok (.getfield 81, 3) := by decide +kernel
theorem dX8_settle_133 : decode cX8_settle 133 = .ok (.bipush 24, 2) := by decide +kernel
theorem dX8_settle_135 : decode cX8_settle 135 = .ok (.iload_n 2, 1) := by decide +kernel
theorem dX8_settle_136 : decode cX8_settle 136 = .ok (.iadd, 1) := by decide +kernel
theorem dX8_settle_137 : decode cX8_settle 137 = .ok (.laload, 1) := by decide +kernel
theorem dX8_settle_138 : decode cX8_settle 138 = .ok (.lastore, 1) := by decide +kernel
theorem dX8_settle_139 : decode cX8_settle 139 = .ok (.iinc 2 1, 3) := by decide +kernel
theorem dX8_settle_142 : decode cX8_settle 142 = .ok (.goto (-39), 3) := by decide +kernel
theorem dX8_settle_145 : decode cX8_settle 145 = .ok (.iconst 0, 1) := by decide +kernel
theorem dX8_settle_146 : decode cX8_settle 146 = .ok (.istore_n 2, 1) := by decide +kernel
theorem dX8_settle_147 : decode cX8_settle 147 = .ok (.iload_n 2, 1) := by decide +kernel
theorem dX8_settle_148 : decode cX8_settle 148 = .ok (.sipush 960, 3) := by decide +kernel
theorem dX8_settle_151 : decode cX8_settle 151 = .ok (.if_icmp .ge 25, 3) := by decide +kernel
theorem dX8_settle_154 : decode cX8_settle 154 = .ok (.aload_n 0, 1) := by decide +kernel
theorem dX8_settle_155 : decode cX8_settle 155 = .ok (.getfield 84, 3) := by decide +kernel
theorem dX8_settle_158 : decode cX8_settle 158 = .ok (.iload_n 2, 1) := by decide +kernel
theorem dX8_settle_159 : decode cX8_settle 159 = .ok (.aload_n 0, 1) := by decide +kernel
theorem dX8_settle_160 : decode cX8_settle 160 = .ok (.getfield 84, 3) := by decide +kernel
theorem dX8_settle_163 : decode cX8_settle 163 = .ok (.sipush 960, 3) := by decide +kernel
theorem dX8_settle_166 : decode cX8_settle 166 = .ok (.iload_n 2, 1) := by decide +kernel
theorem dX8_settle_167 : decode cX8_settle 167 = .ok (.iadd, 1) := by decide +kernel
theorem dX8_settle_168 : decode cX8_settle 168 = .ok (.laload, 1) := by decide +kernel
theorem dX8_settle_169 : decode cX8_settle 169 = .ok (.lastore, 1) := by decide +kernel
theorem dX8_settle_170 : decode cX8_settle 170 = .ok (.iinc 2 1, 3) := by decide +kernel
theorem dX8_settle_173 : decode cX8_settle 173 = .ok (.goto (-26), 3) := by decide +kernel
theorem dX8_settle_176 : decode cX8_settle 176 = .ok (.aload_n 0, 1) := by decide +kernel
theorem dX8_settle_177 : decode cX8_settle 177 = .ok (.getfield 93, 3) := by decide +kernel
theorem dX8_settle_180 : decode cX8_settle 180 = .ok (.iconst 0, 1) := by decide +kernel
theorem dX8_settle_181 : decode cX8_settle 181 = .ok (.aload_n 0, 1) := by decide +kernel
theorem dX8_settle_182 : decode cX8_settle 182 = .ok (.getfield 93, 3) := by decide +kernel
theorem dX8_settle_185 : decode cX8_settle 185 = .ok (.iconst 1, 1) := by decide +kernel
theorem dX8_settle_186 : decode cX8_settle 186 = .ok (.laload, 1) := by decide +kernel
theorem dX8_settle_187 : decode cX8_settle 187 = .ok (.lastore, 1) := by decide +kernel
theorem dX8_settle_188 : decode cX8_settle 188 = .ok (.aload_n 0, 1) := by decide +kernel
theorem dX8_settle_189 : decode cX8_settle 189 = .ok (.aload_n 0, 1) := by decide +kernel
theorem dX8_settle_190 : decode cX8_settle 190 = .ok (.getfield 258, 3) := by decide +kernel
theorem dX8_settle_193 : decode cX8_settle 193 = .ok (.iconst 1, 1) := by decide +kernel
theorem dX8_settle_194 : decode cX8_settle 194 = .ok (.iadd, 1) := by decide +kernel
theorem dX8_settle_195 : decode cX8_settle 195 = .ok (.putfield 258, 3) := by decide +kernel
theorem dX8_settle_198 : decode cX8_settle 198 = .ok (.iload_n 1, 1) := by decide +kernel
theorem dX8_settle_199 : decode cX8_settle 199 = .ok (.ireturn, 1) := by decide +kernel
set_option maxRecDepth 20000 in
theorem ggX8_due_X8_isHand : GoodIn wsX8_due wsX8_isHand := goodIn_r _ [6] (by decide +kernel) (by decide +kernel)
set_option maxRecDepth 20000 in
theorem gX8_due_X8_isHand : GoodIn wsX8_due (va_wsS RX8 132 yX8_isHand wsX8_isHand) := goodIn_app (goodIn_of _ (by decide +kernel)) ggX8_due_X8_isHand
set_option maxRecDepth 20000 in
theorem ggX8_due_X8_dueAt : GoodIn wsX8_due wsX8_dueAt := goodIn_r _ [9] (by decide +kernel) (by decide +kernel)
set_option maxRecDepth 20000 in
theorem gX8_due_X8_dueAt : GoodIn wsX8_due (va_wsS RX8 217 yX8_dueAt wsX8_dueAt) := goodIn_app (goodIn_of _ (by decide +kernel)) ggX8_due_X8_dueAt
theorem dX8_due_0 : decode cX8_due 0 = .ok (.iload_n 1, 1) := by decide +kernel
theorem dX8_due_1 : decode cX8_due 1 = .ok (.invokestatic 132, 3) := by decide +kernel
theorem dX8_due_4 : decode cX8_due 4 = .ok (.ifCond .eq 29, 3) := by decide +kernel
theorem dX8_due_7 : decode cX8_due 7 = .ok (.iload_n 2, 1) := by decide +kernel
theorem dX8_due_8 : decode cX8_due 8 = .ok (.ifCond .lt 25, 3) := by decide +kernel
theorem dX8_due_11 : decode cX8_due 11 = .ok (.iload_n 2, 1) := by decide +kernel
theorem dX8_due_12 : decode cX8_due 12 = .ok (.aload_n 0, 1) := by decide +kernel
theorem dX8_due_13 : decode cX8_due 13 = .ok (.getfield 136, 3) := by decide +kernel
theorem dX8_due_16 : decode cX8_due 16 = .ok (.if_icmp .ge 17, 3) := by decide +kernel
theorem dX8_due_19 : decode cX8_due 19 = .ok (.aload_n 0, 1) := by decide +kernel
theorem dX8_due_20 : decode cX8_due 20 = .ok (.getfield 87, 3) := by decide +kernel
theorem dX8_due_23 : decode cX8_due 23 = .ok (.iconst 0, 1) := by decide +kernel
theorem dX8_due_24 : decode cX8_due 24 = .ok (.iload_n 1, 1) := by decide +kernel
theorem dX8_due_25 : decode cX8_due 25 = .ok (.iload_n 2, 1) := by decide +kernel
theorem dX8_due_26 : decode cX8_due 26 = .ok (.invokestatic 217, 3) := by decide +kernel
theorem dX8_due_29 : decode cX8_due 29 = .ok (.iaload, 1) := by decide +kernel
theorem dX8_due_30 : decode cX8_due 30 = .ok (.goto 4, 3) := by decide +kernel
theorem dX8_due_33 : decode cX8_due 33 = .ok (.iconst (-1), 1) := by decide +kernel
theorem dX8_due_34 : decode cX8_due 34 = .ok (.ireturn, 1) := by decide +kernel
set_option maxRecDepth 20000 in
theorem ggX8_hand_X8_isHand : GoodIn wsX8_hand wsX8_isHand := goodIn_r _ [8] (by decide +kernel) (by decide +kernel)
set_option maxRecDepth 20000 in
theorem gX8_hand_X8_isHand : GoodIn wsX8_hand (va_wsS RX8 132 yX8_isHand wsX8_isHand) := goodIn_app (goodIn_of _ (by decide +kernel)) ggX8_hand_X8_isHand
set_option maxRecDepth 20000 in
theorem ggX8_hand_X8_duesOf : GoodIn wsX8_hand wsX8_duesOf := goodIn_r _ [12, 13, 14, 15, 7, 16, 123, 124, 125, 126, 127, 128, 129, 130, 131, 132, 133, 134, 135, 136, 137, 138, 139, 140, 141, 142, 143, 144, 145, 146, 147, 148, 149, 150, 151, 152, 153, 154, 155, 156, 157, 158, 159, 160, 161, 162, 163, 164, 165, 166, 167, 168, 169] (by decide +kernel) (by decide +kernel)
set_option maxRecDepth 20000 in
theorem gX8_hand_X8_duesOf : GoodIn wsX8_hand (wsV RX8 244 RX8 yX8_duesOf wsX8_duesOf) := goodIn_app (goodIn_of _ (by decide +kernel)) ggX8_hand_X8_duesOf
set_option maxRecDepth 20000 in
theorem ggX8_hand_X8_anew : GoodIn wsX8_hand wsX8_anew := goodIn_r _ [20, 21, 22, 23, 24, 7, 25, 2, 3, 4, 26, 27, 28, 13, 29, 30, 31, 32, 33, 34, 35, 36, 37, 38, 39, 40, 41, 42, 43, 44, 45, 46, 47, 48, 49, 50, 51, 52, 53, 54, 55, 56, 57, 58, 59, 60, 61, 62, 63, 64, 65, 66, 67, 68, 69, 70, 71, 72, 73, 74, 75, 76, 77, 78, 79, 80, 81, 82, 83, 84, 85, 86, 87, 88, 89, 90, 91, 92, 93, 94, 95, 96, 97, 98, 99, 100, 101, 102, 103, 104, 105, 106, 107, 108, 109, 110, 14, 15, 16, 111, 112, 113, 114, 123, 124, 125, 126, 127, 128, 129, 130, 131, 132, 133, 134, 135, 136, 137, 138, 139, 140, 141, 142, 143, 144, 145, 146, 147, 148, 149, 150, 151, 152, 153, 154, 155, 156, 157, 158, 159, 160, 161, 162, 163, 164, 165, 166, 167, 168, 169] (by decide +kernel) (by decide +kernel)
set_option maxRecDepth 20000 in
theorem gX8_hand_X8_anew : GoodIn wsX8_hand (wsV RX8 251 RX8 yX8_anew wsX8_anew) := goodIn_app (goodIn_of _ (by decide +kernel)) ggX8_hand_X8_anew
set_option maxRecDepth 20000 in
theorem ggX8_hand_X8_owed : GoodIn wsX8_hand wsX8_owed := goodIn_r _ [118, 119, 120, 121, 7, 122, 42, 2, 3, 9, 10, 11, 12, 13, 14, 15, 16, 123, 124, 125, 126, 127, 128, 129, 130, 131, 132, 133, 134, 135, 136, 137, 138, 139, 140, 141, 142, 143, 144, 145, 146, 147, 148, 149, 150, 151, 152, 153, 154, 155, 156, 157, 158, 159, 160, 161, 162, 163, 164, 165, 166, 167, 168, 169] (by decide +kernel) (by decide +kernel)
set_option maxRecDepth 20000 in
theorem gX8_hand_X8_owed : GoodIn wsX8_hand (wsV RX8 254 RX8 yX8_owed wsX8_owed) := goodIn_app (goodIn_of _ (by decide +kernel)) ggX8_hand_X8_owed
theorem dX8_hand_0 : decode cX8_hand 0 = .ok (.iload_n 1, 1) := by decide +kernel
theorem dX8_hand_1 : decode cX8_hand 1 = .ok (.invokestatic 132, 3) := by decide +kernel
theorem dX8_hand_4 : decode cX8_hand 4 = .ok (.ifCond .ne 7, 3) := by decide +kernel
theorem dX8_hand_7 : decode cX8_hand 7 = .ok (.ldc2_w 227, 3) := by decide +kernel
theorem dX8_hand_10 : decode cX8_hand 10 = .ok (.lreturn, 1) := by decide +kernel
theorem dX8_hand_11 : decode cX8_hand 11 = .ok (.iload_n 2, 1) := by decide +kernel
theorem dX8_hand_12 : decode cX8_hand 12 = .ok (.tableswitch 75 0 4 #[36, 43, 50, 57, 65], 36) := by decide +kernel
theorem dX8_hand_48 : decode cX8_hand 48 = .ok (.aload_n 0, 1) := by decide +kernel
theorem dX8_hand_49 : decode cX8_hand 49 = .ok (.getfield 71, 3) := by decide +kernel
theorem dX8_hand_52 : decode cX8_hand 52 = .ok (.iload_n 1, 1) := by decide +kernel
theorem dX8_hand_53 : decode cX8_hand 53 = .ok (.laload, 1) := by decide +kernel
theorem dX8_hand_54 : decode cX8_hand 54 = .ok (.lreturn, 1) := by decide +kernel
theorem dX8_hand_55 : decode cX8_hand 55 = .ok (.aload_n 0, 1) := by decide +kernel
theorem dX8_hand_56 : decode cX8_hand 56 = .ok (.getfield 75, 3) := by decide +kernel
theorem dX8_hand_59 : decode cX8_hand 59 = .ok (.iload_n 1, 1) := by decide +kernel
theorem dX8_hand_60 : decode cX8_hand 60 = .ok (.laload, 1) := by decide +kernel
theorem dX8_hand_61 : decode cX8_hand 61 = .ok (.lreturn, 1) := by decide +kernel
theorem dX8_hand_62 : decode cX8_hand 62 = .ok (.aload_n 0, 1) := by decide +kernel
theorem dX8_hand_63 : decode cX8_hand 63 = .ok (.iconst 0, 1) := by decide +kernel
theorem dX8_hand_64 : decode cX8_hand 64 = .ok (.iload_n 1, 1) := by decide +kernel
theorem dX8_hand_65 : decode cX8_hand 65 = .ok (.invokevirtual 244, 3) := by decide +kernel
theorem dX8_hand_68 : decode cX8_hand 68 = .ok (.lreturn, 1) := by decide +kernel
theorem dX8_hand_69 : decode cX8_hand 69 = .ok (.aload_n 0, 1) := by decide +kernel
theorem dX8_hand_70 : decode cX8_hand 70 = .ok (.getfield 90, 3) := by decide +kernel
theorem dX8_hand_73 : decode cX8_hand 73 = .ok (.iload_n 1, 1) := by decide +kernel
theorem dX8_hand_74 : decode cX8_hand 74 = .ok (.iaload, 1) := by decide +kernel
theorem dX8_hand_75 : decode cX8_hand 75 = .ok (.i2l, 1) := by decide +kernel
theorem dX8_hand_76 : decode cX8_hand 76 = .ok (.lreturn, 1) := by decide +kernel
theorem dX8_hand_77 : decode cX8_hand 77 = .ok (.aload_n 0, 1) := by decide +kernel
theorem dX8_hand_78 : decode cX8_hand 78 = .ok (.invokevirtual 251, 3) := by decide +kernel
theorem dX8_hand_81 : decode cX8_hand 81 = .ok (.aload_n 0, 1) := by decide +kernel
theorem dX8_hand_82 : decode cX8_hand 82 = .ok (.iload_n 1, 1) := by decide +kernel
theorem dX8_hand_83 : decode cX8_hand 83 = .ok (.invokevirtual 254, 3) := by decide +kernel
theorem dX8_hand_86 : decode cX8_hand 86 = .ok (.lreturn, 1) := by decide +kernel
theorem dX8_hand_87 : decode cX8_hand 87 = .ok (.ldc2_w 227, 3) := by decide +kernel
theorem dX8_hand_90 : decode cX8_hand 90 = .ok (.lreturn, 1) := by decide +kernel
set_option maxRecDepth 20000 in
theorem ggX8_inBags_X8_bag : GoodIn wsX8_inBags wsX8_bag := goodIn_r _ [5] (by decide +kernel) (by decide +kernel)
set_option maxRecDepth 20000 in
theorem gX8_inBags_X8_bag : GoodIn wsX8_inBags (va_wsS RX8 196 yX8_bag wsX8_bag) := goodIn_app (goodIn_of _ (by decide +kernel)) ggX8_inBags_X8_bag
theorem dX8_inBags_0 : decode cX8_inBags 0 = .ok (.lconst 0, 1) := by decide +kernel
theorem dX8_inBags_1 : decode cX8_inBags 1 = .ok (.lstore_n 2, 1) := by decide +kernel
theorem dX8_inBags_2 : decode cX8_inBags 2 = .ok (.iconst 0, 1) := by decide +kernel
theorem dX8_inBags_3 : decode cX8_inBags 3 = .ok (.istore 4, 2) := by decide +kernel
theorem dX8_inBags_5 : decode cX8_inBags 5 = .ok (.iload 4, 2) := by decide +kernel
theorem dX8_inBags_7 : decode cX8_inBags 7 = .ok (.bipush 40, 2) := by decide +kernel
theorem dX8_inBags_9 : decode cX8_inBags 9 = .ok (.if_icmp .ge 24, 3) := by decide +kernel
theorem dX8_inBags_12 : decode cX8_inBags 12 = .ok (.lload_n 2, 1) := by decide +kernel
theorem dX8_inBags_13 : decode cX8_inBags 13 = .ok (.aload_n 0, 1) := by decide +kernel
theorem dX8_inBags_14 : decode cX8_inBags 14 = .ok (.getfield 84, 3) := by decide +kernel
theorem dX8_inBags_17 : decode cX8_inBags 17 = .ok (.iconst 0, 1) := by decide +kernel
theorem dX8_inBags_18 : decode cX8_inBags 18 = .ok (.iload_n 1, 1) := by decide +kernel
theorem dX8_inBags_19 : decode cX8_inBags 19 = .ok (.iload 4, 2) := by decide +kernel
theorem dX8_inBags_21 : decode cX8_inBags 21 = .ok (.invokestatic 196, 3) := by decide +kernel
theorem dX8_inBags_24 : decode cX8_inBags 24 = .ok (.laload, 1) := by decide +kernel
theorem dX8_inBags_25 : decode cX8_inBags 25 = .ok (.ladd, 1) := by decide +kernel
theorem dX8_inBags_26 : decode cX8_inBags 26 = .ok (.lstore_n 2, 1) := by decide +kernel
theorem dX8_inBags_27 : decode cX8_inBags 27 = .ok (.iinc 4 1, 3) := by decide +kernel
theorem dX8_inBags_30 : decode cX8_inBags 30 = .ok (.goto (-25), 3) := by decide +kernel
theorem dX8_inBags_33 : decode cX8_inBags 33 = .ok (.lload_n 2, 1) := by decide +kernel
theorem dX8_inBags_34 : decode cX8_inBags 34 = .ok (.lreturn, 1) := by decide +kernel
set_option maxRecDepth 20000 in
theorem ggX8_has_X8_inBags : GoodIn wsX8_has wsX8_inBags := goodIn_r _ [13, 8, 14, 15, 12, 16, 17, 18, 19, 20, 21, 22, 23, 24, 25, 26, 27, 28, 29, 30, 31, 32, 33, 34, 35, 36, 37, 38, 39, 40, 41, 42, 43, 44, 45, 46, 47, 48, 49, 50, 51, 52, 53, 54, 55, 56, 57, 58, 59, 60, 61, 62, 63] (by decide +kernel) (by decide +kernel)
set_option maxRecDepth 20000 in
theorem gX8_has_X8_inBags : GoodIn wsX8_has (wsV RX8 261 RX8 yX8_inBags wsX8_inBags) := goodIn_app (goodIn_of _ (by decide +kernel)) ggX8_has_X8_inBags
set_option maxRecDepth 20000 in
theorem ggX8_has_X8_bag : GoodIn wsX8_has wsX8_bag := goodIn_r _ [16] (by decide +kernel) (by decide +kernel)
set_option maxRecDepth 20000 in
theorem gX8_has_X8_bag : GoodIn wsX8_has (va_wsS RX8 196 yX8_bag wsX8_bag) := goodIn_app (goodIn_of _ (by decide +kernel)) ggX8_has_X8_bag
theorem dX8_has_0 : decode cX8_has 0 = .ok (.iload_n 1, 1) := by decide +kernel
theorem dX8_has_1 : decode cX8_has 1 = .ok (.ifCond .lt 11, 3) := by decide +kernel
theorem dX8_has_4 : decode cX8_has 4 = .ok (.iload_n 1, 1) := by decide +kernel
theorem dX8_has_5 : decode cX8_has 5 = .ok (.aload_n 0, 1) := by decide +kernel
theorem dX8_has_6 : decode cX8_has 6 = .ok (.getfield 157, 3) := by decide +kernel
theorem dX8_has_9 : decode cX8_has 9 = .ok (.if_icmp .lt 7, 3) := by decide +kernel
theorem dX8_has_12 : decode cX8_has 12 = .ok (.ldc2_w 227, 3) := by decide +kernel
theorem dX8_has_15 : decode cX8_has 15 = .ok (.lreturn, 1) := by decide +kernel
theorem dX8_has_16 : decode cX8_has 16 = .ok (.iload_n 2, 1) := by decide +kernel
theorem dX8_has_17 : decode cX8_has 17 = .ok (.ifCond .ne 10, 3) := by decide +kernel
theorem dX8_has_20 : decode cX8_has 20 = .ok (.aload_n 0, 1) := by decide +kernel
theorem dX8_has_21 : decode cX8_has 21 = .ok (.getfield 78, 3) := by decide +kernel
theorem dX8_has_24 : decode cX8_has 24 = .ok (.iload_n 1, 1) := by decide +kernel
theorem dX8_has_25 : decode cX8_has 25 = .ok (.laload, 1) := by decide +kernel
theorem dX8_has_26 : decode cX8_has 26 = .ok (.lreturn, 1) := by decide +kernel
theorem dX8_has_27 : decode cX8_has 27 = .ok (.iload_n 2, 1) := by decide +kernel
theorem dX8_has_28 : decode cX8_has 28 = .ok (.iconst 1, 1) := by decide +kernel
theorem dX8_has_29 : decode cX8_has 29 = .ok (.if_icmp .ne 10, 3) := by decide +kernel
theorem dX8_has_32 : decode cX8_has 32 = .ok (.aload_n 0, 1) := by decide +kernel
theorem dX8_has_33 : decode cX8_has 33 = .ok (.getfield 81, 3) := by decide +kernel
theorem dX8_has_36 : decode cX8_has 36 = .ok (.iload_n 1, 1) := by decide +kernel
theorem dX8_has_37 : decode cX8_has 37 = .ok (.laload, 1) := by decide +kernel
theorem dX8_has_38 : decode cX8_has 38 = .ok (.lreturn, 1) := by decide +kernel
theorem dX8_has_39 : decode cX8_has 39 = .ok (.iload_n 2, 1) := by decide +kernel
theorem dX8_has_40 : decode cX8_has 40 = .ok (.iconst 2, 1) := by decide +kernel
theorem dX8_has_41 : decode cX8_has 41 = .ok (.if_icmp .ne 54, 3) := by decide +kernel
theorem dX8_has_44 : decode cX8_has 44 = .ok (.aload_n 0, 1) := by decide +kernel
theorem dX8_has_45 : decode cX8_has 45 = .ok (.getfield 22, 3) := by decide +kernel
theorem dX8_has_48 : decode cX8_has 48 = .ok (.iload_n 1, 1) := by decide +kernel
theorem dX8_has_49 : decode cX8_has 49 = .ok (.iaload, 1) := by decide +kernel
theorem dX8_has_50 : decode cX8_has 50 = .ok (.iconst 1, 1) := by decide +kernel
theorem dX8_has_51 : decode cX8_has 51 = .ok (.if_icmp .ne 24, 3) := by decide +kernel
theorem dX8_has_54 : decode cX8_has 54 = .ok (.aload_n 0, 1) := by decide +kernel
theorem dX8_has_55 : decode cX8_has 55 = .ok (.getfield 34, 3) := by decide +kernel
theorem dX8_has_58 : decode cX8_has 58 = .ok (.iload_n 1, 1) := by decide +kernel
theorem dX8_has_59 : decode cX8_has 59 = .ok (.iaload, 1) := by decide +kernel
theorem dX8_has_60 : decode cX8_has 60 = .ok (.i2l, 1) := by decide +kernel
theorem dX8_has_61 : decode cX8_has 61 = .ok (.ldc2_w 194, 3) := by decide +kernel
theorem dX8_has_64 : decode cX8_has 64 = .ok (.lmul, 1) := by decide +kernel
theorem dX8_has_65 : decode cX8_has 65 = .ok (.aload_n 0, 1) := by decide +kernel
theorem dX8_has_66 : decode cX8_has 66 = .ok (.getfield 78, 3) := by decide +kernel
theorem dX8_has_69 : decode cX8_has 69 = .ok (.iload_n 1, 1) := by decide +kernel
theorem dX8_has_70 : decode cX8_has 70 = .ok (.laload, 1) := by decide +kernel
theorem dX8_has_71 : decode cX8_has 71 = .ok (.lsub, 1) := by decide +kernel
theorem dX8_has_72 : decode cX8_has 72 = .ok (.goto 22, 3) := by decide +kernel
theorem dX8_has_75 : decode cX8_has 75 = .ok (.aload_n 0, 1) := by decide +kernel
theorem dX8_has_76 : decode cX8_has 76 = .ok (.getfield 22, 3) := by decide +kernel
theorem dX8_has_79 : decode cX8_has 79 = .ok (.iload_n 1, 1) := by decide +kernel
theorem dX8_has_80 : decode cX8_has 80 = .ok (.iaload, 1) := by decide +kernel
theorem dX8_has_81 : decode cX8_has 81 = .ok (.iconst 4, 1) := by decide +kernel
theorem dX8_has_82 : decode cX8_has 82 = .ok (.if_icmp .ne 11, 3) := by decide +kernel
theorem dX8_has_85 : decode cX8_has 85 = .ok (.aload_n 0, 1) := by decide +kernel
theorem dX8_has_86 : decode cX8_has 86 = .ok (.iload_n 1, 1) := by decide +kernel
theorem dX8_has_87 : decode cX8_has 87 = .ok (.invokevirtual 261, 3) := by decide +kernel
theorem dX8_has_90 : decode cX8_has 90 = .ok (.goto 4, 3) := by decide +kernel
theorem dX8_has_93 : decode cX8_has 93 = .ok (.lconst 0, 1) := by decide +kernel
theorem dX8_has_94 : decode cX8_has 94 = .ok (.lreturn, 1) := by decide +kernel
theorem dX8_has_95 : decode cX8_has 95 = .ok (.iload_n 2, 1) := by decide +kernel
theorem dX8_has_96 : decode cX8_has 96 = .ok (.bipush 20, 2) := by decide +kernel
theorem dX8_has_98 : decode cX8_has 98 = .ok (.if_icmp .lt 26, 3) := by decide +kernel
theorem dX8_has_101 : decode cX8_has 101 = .ok (.iload_n 2, 1) := by decide +kernel
theorem dX8_has_102 : decode cX8_has 102 = .ok (.bipush 60, 2) := by decide +kernel
theorem dX8_has_104 : decode cX8_has 104 = .ok (.if_icmp .ge 20, 3) := by decide +kernel
theorem dX8_has_107 : decode cX8_has 107 = .ok (.aload_n 0, 1) := by decide +kernel
theorem dX8_has_108 : decode cX8_has 108 = .ok (.getfield 84, 3) := by decide +kernel
theorem dX8_has_111 : decode cX8_has 111 = .ok (.iconst 0, 1) := by decide +kernel
theorem dX8_has_112 : decode cX8_has 112 = .ok (.iload_n 1, 1) := by decide +kernel
theorem dX8_has_113 : decode cX8_has 113 = .ok (.iload_n 2, 1) := by decide +kernel
theorem dX8_has_114 : decode cX8_has 114 = .ok (.bipush 20, 2) := by decide +kernel
theorem dX8_has_116 : decode cX8_has 116 = .ok (.isub, 1) := by decide +kernel
theorem dX8_has_117 : decode cX8_has 117 = .ok (.invokestatic 196, 3) := by decide +kernel
theorem dX8_has_120 : decode cX8_has 120 = .ok (.laload, 1) := by decide +kernel
theorem dX8_has_121 : decode cX8_has 121 = .ok (.goto 4, 3) := by decide +kernel
theorem dX8_has_124 : decode cX8_has 124 = .ok (.lconst 0, 1) := by decide +kernel
theorem dX8_has_125 : decode cX8_has 125 = .ok (.lreturn, 1) := by decide +kernel
theorem dX8_line_0 : decode cX8_line 0 = .ok (.iload_n 1, 1) := by decide +kernel
theorem dX8_line_1 : decode cX8_line 1 = .ok (.ifCond .lt 18, 3) := by decide +kernel
theorem dX8_line_4 : decode cX8_line 4 = .ok (.iload_n 1, 1) := by decide +kernel
theorem dX8_line_5 : decode cX8_line 5 = .ok (.aload_n 0, 1) := by decide +kernel
theorem dX8_line_6 : decode cX8_line 6 = .ok (.getfield 178, 3) := by decide +kernel
theorem dX8_line_9 : decode cX8_line 9 = .ok (.if_icmp .ge 10, 3) := by decide +kernel
theorem dX8_line_12 : decode cX8_line 12 = .ok (.iload_n 1, 1) := by decide +kernel
theorem dX8_line_13 : decode cX8_line 13 = .ok (.sipush 600, 3) := by decide +kernel
theorem dX8_line_16 : decode cX8_line 16 = .ok (.if_icmp .lt 7, 3) := by decide +kernel
theorem dX8_line_19 : decode cX8_line 19 = .ok (.ldc2_w 227, 3) := by decide +kernel
theorem dX8_line_22 : decode cX8_line 22 = .ok (.lreturn, 1) := by decide +kernel
theorem dX8_line_23 : decode cX8_line 23 = .ok (.iload_n 2, 1) := by decide +kernel
theorem dX8_line_24 : decode cX8_line 24 = .ok (.tableswitch 74 0 4 #[36, 44, 52, 60, 67], 36) := by decide +kernel
theorem dX8_line_60 : decode cX8_line 60 = .ok (.aload_n 0, 1) := by decide +kernel
theorem dX8_line_61 : decode cX8_line 61 = .ok (.getfield 108, 3) := by decide +kernel
theorem dX8_line_64 : decode cX8_line 64 = .ok (.iload_n 1, 1) := by decide +kernel
theorem dX8_line_65 : decode cX8_line 65 = .ok (.iaload, 1) := by decide +kernel
theorem dX8_line_66 : decode cX8_line 66 = .ok (.i2l, 1) := by decide +kernel
theorem dX8_line_67 : decode cX8_line 67 = .ok (.lreturn, 1) := by decide +kernel
theorem dX8_line_68 : decode cX8_line 68 = .ok (.aload_n 0, 1) := by decide +kernel
theorem dX8_line_69 : decode cX8_line 69 = .ok (.getfield 111, 3) := by decide +kernel
theorem dX8_line_72 : decode cX8_line 72 = .ok (.iload_n 1, 1) := by decide +kernel
theorem dX8_line_73 : decode cX8_line 73 = .ok (.iaload, 1) := by decide +kernel
theorem dX8_line_74 : decode cX8_line 74 = .ok (.i2l, 1) := by decide +kernel
theorem dX8_line_75 : decode cX8_line 75 = .ok (.lreturn, 1) := by decide +kernel
theorem dX8_line_76 : decode cX8_line 76 = .ok (.aload_n 0, 1) := by decide +kernel
theorem dX8_line_77 : decode cX8_line 77 = .ok (.getfield 114, 3) := by decide +kernel
theorem dX8_line_80 : decode cX8_line 80 = .ok (.iload_n 1, 1) := by decide +kernel
theorem dX8_line_81 : decode cX8_line 81 = .ok (.iaload, 1) := by decide +kernel
theorem dX8_line_82 : decode cX8_line 82 = .ok (.i2l, 1) := by decide +kernel
theorem dX8_line_83 : decode cX8_line 83 = .ok (.lreturn, 1) := by decide +kernel
theorem dX8_line_84 : decode cX8_line 84 = .ok (.aload_n 0, 1) := by decide +kernel
theorem dX8_line_85 : decode cX8_line 85 = .ok (.getfield 117, 3) := by decide +kernel
theorem dX8_line_88 : decode cX8_line 88 = .ok (.iload_n 1, 1) := by decide +kernel
theorem dX8_line_89 : decode cX8_line 89 = .ok (.laload, 1) := by decide +kernel
theorem dX8_line_90 : decode cX8_line 90 = .ok (.lreturn, 1) := by decide +kernel
theorem dX8_line_91 : decode cX8_line 91 = .ok (.aload_n 0, 1) := by decide +kernel
theorem dX8_line_92 : decode cX8_line 92 = .ok (.getfield 120, 3) := by decide +kernel
theorem dX8_line_95 : decode cX8_line 95 = .ok (.iload_n 1, 1) := by decide +kernel
theorem dX8_line_96 : decode cX8_line 96 = .ok (.laload, 1) := by decide +kernel
theorem dX8_line_97 : decode cX8_line 97 = .ok (.lreturn, 1) := by decide +kernel
theorem dX8_line_98 : decode cX8_line 98 = .ok (.ldc2_w 227, 3) := by decide +kernel
theorem dX8_line_101 : decode cX8_line 101 = .ok (.lreturn, 1) := by decide +kernel
theorem dX8_count_0 : decode cX8_count 0 = .ok (.lconst 0, 1) := by decide +kernel
theorem dX8_count_1 : decode cX8_count 1 = .ok (.lstore_n 2, 1) := by decide +kernel
theorem dX8_count_2 : decode cX8_count 2 = .ok (.iload_n 1, 1) := by decide +kernel
theorem dX8_count_3 : decode cX8_count 3 = .ok (.tableswitch 136 0 7 #[45, 51, 57, 63, 70, 99, 104, 130], 45) := by decide +kernel
theorem dX8_count_48 : decode cX8_count 48 = .ok (.aload_n 0, 1) := by decide +kernel
theorem dX8_count_49 : decode cX8_count 49 = .ok (.getfield 136, 3) := by decide +kernel
theorem dX8_count_52 : decode cX8_count 52 = .ok (.i2l, 1) := by decide +kernel
theorem dX8_count_53 : decode cX8_count 53 = .ok (.lreturn, 1) := by decide +kernel
theorem dX8_count_54 : decode cX8_count 54 = .ok (.aload_n 0, 1) := by decide +kernel
theorem dX8_count_55 : decode cX8_count 55 = .ok (.getfield 157, 3) := by decide +kernel
theorem dX8_count_58 : decode cX8_count 58 = .ok (.i2l, 1) := by decide +kernel
theorem dX8_count_59 : decode cX8_count 59 = .ok (.lreturn, 1) := by decide +kernel
theorem dX8_count_60 : decode cX8_count 60 = .ok (.aload_n 0, 1) := by decide +kernel
theorem dX8_count_61 : decode cX8_count 61 = .ok (.getfield 178, 3) := by decide +kernel
theorem dX8_count_64 : decode cX8_count 64 = .ok (.i2l, 1) := by decide +kernel
theorem dX8_count_65 : decode cX8_count 65 = .ok (.lreturn, 1) := by decide +kernel
theorem dX8_count_66 : decode cX8_count 66 = .ok (.aload_n 0, 1) := by decide +kernel
theorem dX8_count_67 : decode cX8_count 67 = .ok (.getfield 93, 3) := by decide +kernel
theorem dX8_count_70 : decode cX8_count 70 = .ok (.iconst 0, 1) := by decide +kernel
theorem dX8_count_71 : decode cX8_count 71 = .ok (.laload, 1) := by decide +kernel
theorem dX8_count_72 : decode cX8_count 72 = .ok (.lreturn, 1) := by decide +kernel
theorem dX8_count_73 : decode cX8_count 73 = .ok (.iconst 0, 1) := by decide +kernel
theorem dX8_count_74 : decode cX8_count 74 = .ok (.istore 4, 2) := by decide +kernel
theorem dX8_count_76 : decode cX8_count 76 = .ok (.iload 4, 2) := by decide +kernel
theorem dX8_count_78 : decode cX8_count 78 = .ok (.bipush 12, 2) := by decide +kernel
theorem dX8_count_80 : decode cX8_count 80 = .ok (.if_icmp .ge 20, 3) := by decide +kernel
theorem dX8_count_83 : decode cX8_count 83 = .ok (.lload_n 2, 1) := by decide +kernel
theorem dX8_count_84 : decode cX8_count 84 = .ok (.aload_n 0, 1) := by decide +kernel
theorem dX8_count_85 : decode cX8_count 85 = .ok (.getfield 90, 3) := by decide +kernel
theorem dX8_count_88 : decode cX8_count 88 = .ok (.iload 4, 2) := by decide +kernel
theorem dX8_count_90 : decode cX8_count 90 = .ok (.iaload, 1) := by decide +kernel
theorem dX8_count_91 : decode cX8_count 91 = .ok (.i2l, 1) := by decide +kernel
theorem dX8_count_92 : decode cX8_count 92 = .ok (.ladd, 1) := by decide +kernel
theorem dX8_count_93 : decode cX8_count 93 = .ok (.lstore_n 2, 1) := by decide +kernel
theorem dX8_count_94 : decode cX8_count 94 = .ok (.iinc 4 1, 3) := by decide +kernel
theorem dX8_count_97 : decode cX8_count 97 = .ok (.goto (-21), 3) := by decide +kernel
theorem dX8_count_100 : decode cX8_count 100 = .ok (.lload_n 2, 1) := by decide +kernel
theorem dX8_count_101 : decode cX8_count 101 = .ok (.lreturn, 1) := by decide +kernel
theorem dX8_count_102 : decode cX8_count 102 = .ok (.aload_n 0, 1) := by decide +kernel
theorem dX8_count_103 : decode cX8_count 103 = .ok (.getfield 229, 3) := by decide +kernel
theorem dX8_count_106 : decode cX8_count 106 = .ok (.lreturn, 1) := by decide +kernel
theorem dX8_count_107 : decode cX8_count 107 = .ok (.aload_n 0, 1) := by decide +kernel
theorem dX8_count_108 : decode cX8_count 108 = .ok (.getfield 136, 3) := by decide +kernel
theorem dX8_count_111 : decode cX8_count 111 = .ok (.bipush 40, 2) := by decide +kernel
theorem dX8_count_113 : decode cX8_count 113 = .ok (.if_icmp .ne 9, 3) := by decide +kernel
theorem dX8_count_116 : decode cX8_count 116 = .ok (.ldc2_w 227, 3) := by decide +kernel
theorem dX8_count_119 : decode cX8_count 119 = .ok (.goto 13, 3) := by decide +kernel
theorem dX8_count_122 : decode cX8_count 122 = .ok (.aload_n 0, 1) := by decide +kernel
theorem dX8_count_123 : decode cX8_count 123 = .ok (.getfield 64, 3) := by decide +kernel
theorem dX8_count_126 : decode cX8_count 126 = .ok (.aload_n 0, 1) := by decide +kernel
theorem dX8_count_127 : decode cX8_count 127 = .ok (.getfield 136, 3) := by decide +kernel
theorem dX8_count_130 : decode cX8_count 130 = .ok (.iaload, 1) := by decide +kernel
theorem dX8_count_131 : decode cX8_count 131 = .ok (.i2l, 1) := by decide +kernel
theorem dX8_count_132 : decode cX8_count 132 = .ok (.lreturn, 1) := by decide +kernel
theorem dX8_count_133 : decode cX8_count 133 = .ok (.aload_n 0, 1) := by decide +kernel
theorem dX8_count_134 : decode cX8_count 134 = .ok (.getfield 258, 3) := by decide +kernel
theorem dX8_count_137 : decode cX8_count 137 = .ok (.i2l, 1) := by decide +kernel
theorem dX8_count_138 : decode cX8_count 138 = .ok (.lreturn, 1) := by decide +kernel
theorem dX8_count_139 : decode cX8_count 139 = .ok (.ldc2_w 227, 3) := by decide +kernel
theorem dX8_count_142 : decode cX8_count 142 = .ok (.lreturn, 1) := by decide +kernel
theorem dJ6_bitCount_0f7a4_0 : decode cJ6_bitCount_0f7a4 0 = .ok (.iload_n 0, 1) := by decide +kernel
theorem dJ6_bitCount_0f7a4_1 : decode cJ6_bitCount_0f7a4 1 = .ok (.iload_n 0, 1) := by decide +kernel
theorem dJ6_bitCount_0f7a4_2 : decode cJ6_bitCount_0f7a4 2 = .ok (.iconst 1, 1) := by decide +kernel
theorem dJ6_bitCount_0f7a4_3 : decode cJ6_bitCount_0f7a4 3 = .ok (.iushr, 1) := by decide +kernel
theorem dJ6_bitCount_0f7a4_4 : decode cJ6_bitCount_0f7a4 4 = .ok (.ldc_w 265, 3) := by decide +kernel
theorem dJ6_bitCount_0f7a4_7 : decode cJ6_bitCount_0f7a4 7 = .ok (.iand, 1) := by decide +kernel
theorem dJ6_bitCount_0f7a4_8 : decode cJ6_bitCount_0f7a4 8 = .ok (.isub, 1) := by decide +kernel
theorem dJ6_bitCount_0f7a4_9 : decode cJ6_bitCount_0f7a4 9 = .ok (.istore_n 0, 1) := by decide +kernel
theorem dJ6_bitCount_0f7a4_10 : decode cJ6_bitCount_0f7a4 10 = .ok (.iload_n 0, 1) := by decide +kernel
theorem dJ6_bitCount_0f7a4_11 : decode cJ6_bitCount_0f7a4 11 = .ok (.ldc_w 266, 3) := by decide +kernel
theorem dJ6_bitCount_0f7a4_14 : decode cJ6_bitCount_0f7a4 14 = .ok (.iand, 1) := by decide +kernel
theorem dJ6_bitCount_0f7a4_15 : decode cJ6_bitCount_0f7a4 15 = .ok (.iload_n 0, 1) := by decide +kernel
theorem dJ6_bitCount_0f7a4_16 : decode cJ6_bitCount_0f7a4 16 = .ok (.iconst 2, 1) := by decide +kernel
theorem dJ6_bitCount_0f7a4_17 : decode cJ6_bitCount_0f7a4 17 = .ok (.iushr, 1) := by decide +kernel
theorem dJ6_bitCount_0f7a4_18 : decode cJ6_bitCount_0f7a4 18 = .ok (.ldc_w 266, 3) := by decide +kernel
theorem dJ6_bitCount_0f7a4_21 : decode cJ6_bitCount_0f7a4 21 = .ok (.iand, 1) := by decide +kernel
theorem dJ6_bitCount_0f7a4_22 : decode cJ6_bitCount_0f7a4 22 = .ok (.iadd, 1) := by decide +kernel
theorem dJ6_bitCount_0f7a4_23 : decode cJ6_bitCount_0f7a4 23 = .ok (.istore_n 0, 1) := by decide +kernel
theorem dJ6_bitCount_0f7a4_24 : decode cJ6_bitCount_0f7a4 24 = .ok (.iload_n 0, 1) := by decide +kernel
theorem dJ6_bitCount_0f7a4_25 : decode cJ6_bitCount_0f7a4 25 = .ok (.iload_n 0, 1) := by decide +kernel
theorem dJ6_bitCount_0f7a4_26 : decode cJ6_bitCount_0f7a4 26 = .ok (.iconst 4, 1) := by decide +kernel
theorem dJ6_bitCount_0f7a4_27 : decode cJ6_bitCount_0f7a4 27 = .ok (.iushr, 1) := by decide +kernel
theorem dJ6_bitCount_0f7a4_28 : decode cJ6_bitCount_0f7a4 28 = .ok (.iadd, 1) := by decide +kernel
theorem dJ6_bitCount_0f7a4_29 : decode cJ6_bitCount_0f7a4 29 = .ok (.ldc_w 267, 3) := by decide +kernel
theorem dJ6_bitCount_0f7a4_32 : decode cJ6_bitCount_0f7a4 32 = .ok (.iand, 1) := by decide +kernel
theorem dJ6_bitCount_0f7a4_33 : decode cJ6_bitCount_0f7a4 33 = .ok (.istore_n 0, 1) := by decide +kernel
theorem dJ6_bitCount_0f7a4_34 : decode cJ6_bitCount_0f7a4 34 = .ok (.iload_n 0, 1) := by decide +kernel
theorem dJ6_bitCount_0f7a4_35 : decode cJ6_bitCount_0f7a4 35 = .ok (.iload_n 0, 1) := by decide +kernel
theorem dJ6_bitCount_0f7a4_36 : decode cJ6_bitCount_0f7a4 36 = .ok (.bipush 8, 2) := by decide +kernel
theorem dJ6_bitCount_0f7a4_38 : decode cJ6_bitCount_0f7a4 38 = .ok (.iushr, 1) := by decide +kernel
theorem dJ6_bitCount_0f7a4_39 : decode cJ6_bitCount_0f7a4 39 = .ok (.iadd, 1) := by decide +kernel
theorem dJ6_bitCount_0f7a4_40 : decode cJ6_bitCount_0f7a4 40 = .ok (.istore_n 0, 1) := by decide +kernel
theorem dJ6_bitCount_0f7a4_41 : decode cJ6_bitCount_0f7a4 41 = .ok (.iload_n 0, 1) := by decide +kernel
theorem dJ6_bitCount_0f7a4_42 : decode cJ6_bitCount_0f7a4 42 = .ok (.iload_n 0, 1) := by decide +kernel
theorem dJ6_bitCount_0f7a4_43 : decode cJ6_bitCount_0f7a4 43 = .ok (.bipush 16, 2) := by decide +kernel
theorem dJ6_bitCount_0f7a4_45 : decode cJ6_bitCount_0f7a4 45 = .ok (.iushr, 1) := by decide +kernel
theorem dJ6_bitCount_0f7a4_46 : decode cJ6_bitCount_0f7a4 46 = .ok (.iadd, 1) := by decide +kernel
theorem dJ6_bitCount_0f7a4_47 : decode cJ6_bitCount_0f7a4 47 = .ok (.istore_n 0, 1) := by decide +kernel
theorem dJ6_bitCount_0f7a4_48 : decode cJ6_bitCount_0f7a4 48 = .ok (.iload_n 0, 1) := by decide +kernel
theorem dJ6_bitCount_0f7a4_49 : decode cJ6_bitCount_0f7a4 49 = .ok (.bipush 63, 2) := by decide +kernel
theorem dJ6_bitCount_0f7a4_51 : decode cJ6_bitCount_0f7a4 51 = .ok (.iand, 1) := by decide +kernel
theorem dJ6_bitCount_0f7a4_52 : decode cJ6_bitCount_0f7a4 52 = .ok (.ireturn, 1) := by decide +kernel
theorem dJ9_max_7cf53_0 : decode cJ9_max_7cf53 0 = .ok (.iload_n 0, 1) := by decide +kernel
theorem dJ9_max_7cf53_1 : decode cJ9_max_7cf53 1 = .ok (.iload_n 1, 1) := by decide +kernel
theorem dJ9_max_7cf53_2 : decode cJ9_max_7cf53 2 = .ok (.if_icmp .lt 7, 3) := by decide +kernel
theorem dJ9_max_7cf53_5 : decode cJ9_max_7cf53 5 = .ok (.iload_n 0, 1) := by decide +kernel
theorem dJ9_max_7cf53_6 : decode cJ9_max_7cf53 6 = .ok (.goto 4, 3) := by decide +kernel
theorem dJ9_max_7cf53_9 : decode cJ9_max_7cf53 9 = .ok (.iload_n 1, 1) := by decide +kernel
theorem dJ9_max_7cf53_10 : decode cJ9_max_7cf53 10 = .ok (.ireturn, 1) := by decide +kernel
theorem dJ9_max_f86c9_0 : decode cJ9_max_f86c9 0 = .ok (.lload_n 0, 1) := by decide +kernel
theorem dJ9_max_f86c9_1 : decode cJ9_max_f86c9 1 = .ok (.lload_n 2, 1) := by decide +kernel
theorem dJ9_max_f86c9_2 : decode cJ9_max_f86c9 2 = .ok (.lcmp, 1) := by decide +kernel
theorem dJ9_max_f86c9_3 : decode cJ9_max_f86c9 3 = .ok (.ifCond .lt 7, 3) := by decide +kernel
theorem dJ9_max_f86c9_6 : decode cJ9_max_f86c9 6 = .ok (.lload_n 0, 1) := by decide +kernel
theorem dJ9_max_f86c9_7 : decode cJ9_max_f86c9 7 = .ok (.goto 4, 3) := by decide +kernel
theorem dJ9_max_f86c9_10 : decode cJ9_max_f86c9 10 = .ok (.lload_n 2, 1) := by decide +kernel
theorem dJ9_max_f86c9_11 : decode cJ9_max_f86c9 11 = .ok (.lreturn, 1) := by decide +kernel
theorem dJ9_min_7cf53_0 : decode cJ9_min_7cf53 0 = .ok (.iload_n 0, 1) := by decide +kernel
theorem dJ9_min_7cf53_1 : decode cJ9_min_7cf53 1 = .ok (.iload_n 1, 1) := by decide +kernel
theorem dJ9_min_7cf53_2 : decode cJ9_min_7cf53 2 = .ok (.if_icmp .gt 7, 3) := by decide +kernel
theorem dJ9_min_7cf53_5 : decode cJ9_min_7cf53 5 = .ok (.iload_n 0, 1) := by decide +kernel
theorem dJ9_min_7cf53_6 : decode cJ9_min_7cf53 6 = .ok (.goto 4, 3) := by decide +kernel
theorem dJ9_min_7cf53_9 : decode cJ9_min_7cf53 9 = .ok (.iload_n 1, 1) := by decide +kernel
theorem dJ9_min_7cf53_10 : decode cJ9_min_7cf53 10 = .ok (.ireturn, 1) := by decide +kernel
theorem dJ9_min_f86c9_0 : decode cJ9_min_f86c9 0 = .ok (.lload_n 0, 1) := by decide +kernel
theorem dJ9_min_f86c9_1 : decode cJ9_min_f86c9 1 = .ok (.lload_n 2, 1) := by decide +kernel
theorem dJ9_min_f86c9_2 : decode cJ9_min_f86c9 2 = .ok (.lcmp, 1) := by decide +kernel
theorem dJ9_min_f86c9_3 : decode cJ9_min_f86c9 3 = .ok (.ifCond .gt 7, 3) := by decide +kernel
theorem dJ9_min_f86c9_6 : decode cJ9_min_f86c9 6 = .ok (.lload_n 0, 1) := by decide +kernel
theorem dJ9_min_f86c9_7 : decode cJ9_min_f86c9 7 = .ok (.goto 4, 3) := by decide +kernel
theorem dJ9_min_f86c9_10 : decode cJ9_min_f86c9 10 = .ok (.lload_n 2, 1) := by decide +kernel
theorem dJ9_min_f86c9_11 : decode cJ9_min_f86c9 11 = .ok (.lreturn, 1) := by decide +kernel
theorem dJ7_fill_d0a16_0 : decode cJ7_fill_d0a16 0 = .ok (.iconst 0, 1) := by decide +kernel
theorem dJ7_fill_d0a16_1 : decode cJ7_fill_d0a16 1 = .ok (.istore_n 3, 1) := by decide +kernel
theorem dJ7_fill_d0a16_2 : decode cJ7_fill_d0a16 2 = .ok (.aload_n 0, 1) := by decide +kernel
theorem dJ7_fill_d0a16_3 : decode cJ7_fill_d0a16 3 = .ok (.arraylength, 1) := by decide +kernel
theorem dJ7_fill_d0a16_4 : decode cJ7_fill_d0a16 4 = .ok (.istore 4, 2) := by decide +kernel
theorem dJ7_fill_d0a16_6 : decode cJ7_fill_d0a16 6 = .ok (.iload_n 3, 1) := by decide +kernel
theorem dJ7_fill_d0a16_7 : decode cJ7_fill_d0a16 7 = .ok (.iload 4, 2) := by decide +kernel
theorem dJ7_fill_d0a16_9 : decode cJ7_fill_d0a16 9 = .ok (.if_icmp .ge 13, 3) := by decide +kernel
theorem dJ7_fill_d0a16_12 : decode cJ7_fill_d0a16 12 = .ok (.aload_n 0, 1) := by decide +kernel
theorem dJ7_fill_d0a16_13 : decode cJ7_fill_d0a16 13 = .ok (.iload_n 3, 1) := by decide +kernel
theorem dJ7_fill_d0a16_14 : decode cJ7_fill_d0a16 14 = .ok (.lload_n 1, 1) := by decide +kernel
theorem dJ7_fill_d0a16_15 : decode cJ7_fill_d0a16 15 = .ok (.lastore, 1) := by decide +kernel
theorem dJ7_fill_d0a16_16 : decode cJ7_fill_d0a16 16 = .ok (.iinc 3 1, 3) := by decide +kernel
theorem dJ7_fill_d0a16_19 : decode cJ7_fill_d0a16 19 = .ok (.goto (-13), 3) := by decide +kernel
theorem dJ7_fill_d0a16_22 : decode cJ7_fill_d0a16 22 = .ok (.return_, 1) := by decide +kernel
theorem dJ7_fill_53178_0 : decode cJ7_fill_53178 0 = .ok (.iconst 0, 1) := by decide +kernel
theorem dJ7_fill_53178_1 : decode cJ7_fill_53178 1 = .ok (.istore_n 2, 1) := by decide +kernel
theorem dJ7_fill_53178_2 : decode cJ7_fill_53178 2 = .ok (.aload_n 0, 1) := by decide +kernel
theorem dJ7_fill_53178_3 : decode cJ7_fill_53178 3 = .ok (.arraylength, 1) := by decide +kernel
theorem dJ7_fill_53178_4 : decode cJ7_fill_53178 4 = .ok (.istore_n 3, 1) := by decide +kernel
theorem dJ7_fill_53178_5 : decode cJ7_fill_53178 5 = .ok (.iload_n 2, 1) := by decide +kernel
theorem dJ7_fill_53178_6 : decode cJ7_fill_53178 6 = .ok (.iload_n 3, 1) := by decide +kernel
theorem dJ7_fill_53178_7 : decode cJ7_fill_53178 7 = .ok (.if_icmp .ge 13, 3) := by decide +kernel
theorem dJ7_fill_53178_10 : decode cJ7_fill_53178 10 = .ok (.aload_n 0, 1) := by decide +kernel
theorem dJ7_fill_53178_11 : decode cJ7_fill_53178 11 = .ok (.iload_n 2, 1) := by decide +kernel
theorem dJ7_fill_53178_12 : decode cJ7_fill_53178 12 = .ok (.iload_n 1, 1) := by decide +kernel
theorem dJ7_fill_53178_13 : decode cJ7_fill_53178 13 = .ok (.iastore, 1) := by decide +kernel
theorem dJ7_fill_53178_14 : decode cJ7_fill_53178 14 = .ok (.iinc 2 1, 3) := by decide +kernel
theorem dJ7_fill_53178_17 : decode cJ7_fill_53178 17 = .ok (.goto (-12), 3) := by decide +kernel
theorem dJ7_fill_53178_20 : decode cJ7_fill_53178 20 = .ok (.return_, 1) := by decide +kernel
set_option maxRecDepth 20000 in
theorem ggL_law_X7_init : GoodIn wsL_law wsX7_init := goodIn_r _ [8, 9, 10, 11, 12, 13, 14, 15, 16, 17, 18, 19, 20, 21, 22, 23, 24, 25, 26, 27, 28, 29, 30, 31, 32, 33, 34, 35, 36, 37, 38, 39, 40, 41, 42, 43, 44, 45, 46, 47, 48, 49, 50, 51, 52, 53, 54, 55, 56, 57, 58, 59, 60, 61, 62, 63, 64, 65, 66, 67, 68, 69, 70, 71, 72, 73, 74, 75, 76, 77, 78, 79, 80, 81, 82, 83, 84, 85, 86, 87, 88, 89, 90, 91, 92, 93, 94, 95, 96, 97, 98, 99, 100, 101, 102, 103, 104, 105, 106, 107, 108, 109, 110, 111, 112, 113, 114, 115, 741, 742, 743, 744, 687, 688, 689, 690, 691, 692, 693, 745, 746, 747, 748, 749, 750, 751, 752, 753, 754, 755, 756, 757, 758, 759, 760, 761, 762, 763, 764, 765, 766, 767, 768, 769, 770, 771, 772, 773, 774, 775, 776, 777, 778, 779, 780, 781, 782, 783, 784, 785, 786, 787, 788, 789, 790, 791] (by decide +kernel) (by decide +kernel)
set_option maxRecDepth 20000 in
theorem gL_law_X7_init : GoodIn wsL_law (wsX7_init) := ggL_law_X7_init
set_option maxRecDepth 20000 in
theorem ggL_law_X8_init : GoodIn wsL_law wsX8_init := goodIn_r _ [118, 119, 10, 11, 39, 120, 121, 122, 123, 124, 125, 126, 127, 128, 129, 130, 131, 132, 133, 134, 135, 136, 137, 138, 139, 140, 82, 141, 142, 143, 144, 145, 146, 147, 148, 149, 150, 151, 152, 153, 154, 155, 156, 157, 158, 159, 160, 694, 695, 696, 697, 698, 699, 700, 701, 702, 703, 704, 705, 706, 707, 708, 709, 710, 711, 712, 713, 714, 715, 716, 717, 718, 719, 720, 721, 722, 723, 724, 725, 726, 727, 728, 729, 730, 731, 732, 733, 734, 735, 736, 737, 738, 739, 740] (by decide +kernel) (by decide +kernel)
set_option maxRecDepth 20000 in
theorem gL_law_X8_init : GoodIn wsL_law (wsX8_init) := ggL_law_X8_init
set_option maxRecDepth 20000 in
theorem ggL_law_X7_share : GoodIn wsL_law wsX7_share := goodIn_r _ [164, 15, 165, 166, 167, 2, 168, 169, 170, 171, 172, 34, 173, 174, 175, 176, 14, 177, 40, 41, 178, 179, 180, 181, 182, 183, 184, 185, 186, 187, 188, 189, 190, 191, 192, 193, 194, 42, 43, 687, 688, 689, 690, 691, 692, 693, 741, 742, 743, 744, 769, 770, 771, 772, 773, 774, 775, 776, 777, 778, 779, 780, 781, 782, 783, 784] (by decide +kernel) (by decide +kernel)
set_option maxRecDepth 20000 in
theorem gL_law_X7_share : GoodIn wsL_law (wsV RL 13 RX7 yX7_share wsX7_share) := goodIn_app (goodIn_of _ (by decide +kernel)) ggL_law_X7_share
set_option maxRecDepth 20000 in
theorem ggL_law_X8_share : GoodIn wsL_law wsX8_share := goodIn_r _ [198, 120, 121, 122, 123, 199, 200, 5, 201, 202, 203, 204, 205, 206, 207, 208, 209, 210, 211, 212, 694, 695, 696, 697, 698, 699, 700, 701, 702, 703, 704, 705, 706, 707, 708, 709, 710, 711, 712, 713, 714, 715, 716, 717, 718, 719, 720, 721, 722, 723, 724, 725, 726, 727, 728, 729, 730, 731, 732, 733, 734, 735, 736, 737, 738, 739, 740] (by decide +kernel) (by decide +kernel)
set_option maxRecDepth 20000 in
theorem gL_law_X8_share : GoodIn wsL_law (wsV RL 17 RX8 yX8_share wsX8_share) := goodIn_app (goodIn_of _ (by decide +kernel)) ggL_law_X8_share
set_option maxRecDepth 20000 in
theorem ggL_law_X7_bargain : GoodIn wsL_law wsX7_bargain := goodIn_r _ [216, 19, 217, 178, 179, 2, 180, 169, 170, 171, 172, 34, 173, 218, 219, 220, 181, 182, 183, 221, 222, 223, 224, 225, 226, 227, 228, 229, 230, 18, 231, 232, 47, 48, 49, 50, 233, 234, 235, 236, 51, 52, 53, 54, 687, 688, 689, 690, 691, 692, 693, 745, 746, 747, 748, 749, 750, 751, 752, 753, 769, 770, 771, 772, 773, 774, 775, 776, 777, 778, 779, 780, 781, 782, 783, 784] (by decide +kernel) (by decide +kernel)
set_option maxRecDepth 20000 in
theorem gL_law_X7_bargain : GoodIn wsL_law (wsV RL 18 RX7 yX7_bargain wsX7_bargain) := goodIn_app (goodIn_of _ (by decide +kernel)) ggL_law_X7_bargain
set_option maxRecDepth 20000 in
theorem ggL_law_X8_bargain : GoodIn wsL_law wsX8_bargain := goodIn_r _ [240, 241, 124, 125, 126, 127, 128, 129, 130, 131, 202, 203, 5, 204, 208, 209, 210, 211, 212, 242, 243, 244, 245, 246, 247, 248, 249, 250, 251, 694, 695, 696, 697, 698, 699, 700, 701, 702, 703, 704, 705, 706, 707, 708, 709, 710, 711, 712, 713, 714, 715, 716, 717, 718, 719, 720, 721, 722, 723, 724, 725, 726, 727, 728, 729, 730, 731, 732, 733, 734, 735, 736, 737, 738, 739, 740] (by decide +kernel) (by decide +kernel)
set_option maxRecDepth 20000 in
theorem gL_law_X8_bargain : GoodIn wsL_law (wsV RL 21 RX8 yX8_bargain wsX8_bargain) := goodIn_app (goodIn_of _ (by decide +kernel)) ggL_law_X8_bargain
set_option maxRecDepth 20000 in
theorem ggL_law_X7_report : GoodIn wsL_law wsX7_report := goodIn_r _ [255, 34, 173, 23, 256, 257, 258, 2, 259, 15, 165, 166, 167, 168, 260, 261, 262, 224, 263, 264, 265, 22, 266, 59, 60, 62, 61, 58, 687, 688, 689, 690, 691, 692, 693, 769, 770, 771, 772, 773, 774, 775, 776, 777, 778, 779, 780, 781, 782, 783, 784, 741, 742, 743, 744, 754, 755, 756, 757, 758, 759] (by decide +kernel) (by decide +kernel)
set_option maxRecDepth 20000 in
theorem gL_law_X7_report : GoodIn wsL_law (wsV RL 22 RX7 yX7_report wsX7_report) := goodIn_app (goodIn_of _ (by decide +kernel)) ggL_law_X7_report
set_option maxRecDepth 20000 in
theorem ggL_law_X8_report : GoodIn wsL_law wsX8_report := goodIn_r _ [270, 212, 271, 272, 273, 5, 274, 120, 199, 200, 201, 275, 276, 277, 251, 278, 279, 280, 281, 135, 136, 137, 132, 133, 134, 694, 695, 696, 697, 698, 699, 700, 701, 702, 703, 704, 705, 706, 707, 708, 709, 710, 711, 712, 713, 714, 715, 716, 717, 718, 719, 720, 721, 722, 723, 724, 725, 726, 727, 728, 729, 730, 731, 732, 733, 734, 735, 736, 737, 738, 739, 740] (by decide +kernel) (by decide +kernel)
set_option maxRecDepth 20000 in
theorem gL_law_X8_report : GoodIn wsL_law (wsV RL 26 RX8 yX8_report wsX8_report) := goodIn_app (goodIn_of _ (by decide +kernel)) ggL_law_X8_report
set_option maxRecDepth 20000 in
theorem ggL_law_X7_tear : GoodIn wsL_law wsX7_tear := goodIn_r _ [285, 34, 173, 23, 286, 107, 108, 109, 287, 288, 289, 22, 290, 63, 687, 688, 689, 690, 691, 692, 693, 769, 770, 771, 772, 773, 774, 775, 776, 777, 778, 779, 780, 781, 782, 783, 784, 754, 755, 756, 757, 758, 759] (by decide +kernel) (by decide +kernel)
set_option maxRecDepth 20000 in
theorem gL_law_X7_tear : GoodIn wsL_law (wsV RL 27 RX7 yX7_tear wsX7_tear) := goodIn_app (goodIn_of _ (by decide +kernel)) ggL_law_X7_tear
set_option maxRecDepth 20000 in
theorem ggL_law_X8_tear : GoodIn wsL_law wsX8_tear := goodIn_r _ [294, 212, 138, 694, 695, 696, 697, 698, 699, 700, 701, 702, 703, 704, 705, 706, 707, 708, 709, 710, 711, 712, 713, 714, 715, 716, 717, 718, 719, 720, 721, 722, 723, 724, 725, 726, 727, 728, 729, 730, 731, 732, 733, 734, 735, 736, 737, 738, 739, 740] (by decide +kernel) (by decide +kernel)
set_option maxRecDepth 20000 in
theorem gL_law_X8_tear : GoodIn wsL_law (wsV RL 31 RX8 yX8_tear wsX8_tear) := goodIn_app (goodIn_of _ (by decide +kernel)) ggL_law_X8_tear
set_option maxRecDepth 20000 in
theorem ggL_law_X7_sent : GoodIn wsL_law wsX7_sent := goodIn_r _ [298, 27, 299, 300, 34, 173, 301, 178, 179, 2, 180, 221, 222, 223, 224, 302, 303, 304, 26, 305, 67, 306, 68, 69, 307, 308, 309, 310, 33, 311, 312, 313, 108, 314, 315, 316, 317, 318, 319, 320, 97, 321, 322, 323, 324, 325, 326, 327, 328, 329, 93, 330, 89, 331, 332, 333, 84, 334, 335, 336, 337, 18, 338, 47, 48, 339, 340, 341, 342, 101, 343, 95, 344, 345, 346, 22, 347, 62, 348, 349, 350, 351, 61, 352, 353, 354, 355, 63, 356, 357, 358, 359, 91, 360, 361, 362, 363, 364, 365, 366, 367, 59, 368, 369, 370, 371, 58, 372, 373, 374, 375, 376, 377, 378, 14, 379, 40, 41, 380, 381, 382, 383, 384, 88, 87, 385, 83, 386, 387, 388, 100, 389, 390, 110, 111, 112, 113, 114, 226, 227, 391, 392, 393, 394, 49, 50, 395, 396, 397, 398, 399, 400, 401, 402, 403, 404, 405, 406, 407, 408, 115, 409, 410, 411, 412, 413, 414, 415, 416, 417, 86, 418, 419, 420, 421, 422, 85, 423, 424, 425, 426, 687, 688, 689, 690, 691, 692, 693, 760, 761, 762, 763, 764, 769, 770, 771, 772, 773, 774, 775, 776, 777, 778, 779, 780, 781, 782, 783, 784, 745, 746, 747, 748, 749, 750, 751, 752, 753, 785, 786, 787, 788, 789, 790, 791, 754, 755, 756, 757, 758, 759, 741, 742, 743, 744] (by decide +kernel) (by decide +kernel)
set_option maxRecDepth 20000 in
theorem gL_law_X7_sent : GoodIn wsL_law (wsV RL 32 RX7 yX7_sent wsX7_sent) := goodIn_app (goodIn_of _ (by decide +kernel)) ggL_law_X7_sent
set_option maxRecDepth 20000 in
theorem ggL_law_X8_sent : GoodIn wsL_law wsX8_sent := goodIn_r _ [430, 251, 431, 432, 158, 159, 160, 212, 433, 434, 202, 203, 5, 204, 435, 436, 437, 438, 241, 124, 125, 145, 142, 439, 440, 441, 694, 695, 696, 697, 698, 699, 700, 701, 702, 703, 704, 705, 706, 707, 708, 709, 710, 711, 712, 713, 714, 715, 716, 717, 718, 719, 720, 721, 722, 723, 724, 725, 726, 727, 728, 729, 730, 731, 732, 733, 734, 735, 736, 737, 738, 739, 740] (by decide +kernel) (by decide +kernel)
set_option maxRecDepth 20000 in
theorem gL_law_X8_sent : GoodIn wsL_law (wsV RL 36 RX8 yX8_sent wsX8_sent) := goodIn_app (goodIn_of _ (by decide +kernel)) ggL_law_X8_sent
set_option maxRecDepth 20000 in
theorem ggL_law_X7_close : GoodIn wsL_law wsX7_close := goodIn_r _ [445, 34, 173, 308, 309, 310, 33, 311, 312, 313, 108, 314, 315, 316, 317, 318, 319, 320, 97, 321, 322, 323, 324, 325, 326, 327, 328, 329, 93, 330, 89, 331, 332, 333, 84, 334, 335, 336, 337, 18, 338, 47, 48, 339, 340, 341, 342, 101, 343, 95, 344, 345, 346, 22, 347, 62, 348, 349, 350, 351, 61, 352, 353, 354, 355, 63, 356, 357, 358, 359, 91, 360, 361, 362, 363, 364, 365, 366, 367, 59, 368, 369, 370, 371, 58, 372, 373, 374, 375, 376, 377, 378, 14, 379, 40, 41, 380, 381, 382, 383, 384, 88, 87, 385, 83, 386, 387, 388, 100, 389, 390, 110, 111, 112, 113, 114, 226, 2, 227, 391, 392, 393, 394, 49, 50, 395, 396, 397, 398, 399, 400, 401, 402, 403, 404, 405, 406, 407, 408, 115, 409, 410, 411, 412, 413, 414, 415, 416, 417, 86, 418, 419, 420, 421, 422, 85, 423, 424, 425, 426, 687, 688, 689, 690, 691, 692, 693, 769, 770, 771, 772, 773, 774, 775, 776, 777, 778, 779, 780, 781, 782, 783, 784, 760, 761, 762, 763, 764, 745, 746, 747, 748, 749, 750, 751, 752, 753, 785, 786, 787, 788, 789, 790, 791, 754, 755, 756, 757, 758, 759, 741, 742, 743, 744] (by decide +kernel) (by decide +kernel)
set_option maxRecDepth 20000 in
theorem gL_law_X7_close : GoodIn wsL_law (wsV RL 37 RX7 yX7_close wsX7_close) := goodIn_app (goodIn_of _ (by decide +kernel)) ggL_law_X7_close
set_option maxRecDepth 20000 in
theorem ggL_law_X8_close : GoodIn wsL_law wsX8_close := goodIn_r _ [449, 212, 450, 451, 452, 453, 5, 454, 137, 136, 135, 132, 133, 134, 241, 124, 129, 125, 141, 145, 127, 455, 456, 457, 458, 138, 140, 459, 460, 461, 462, 122, 123, 463, 464, 465, 466, 467, 120, 121, 468, 469, 470, 471, 472, 148, 150, 152, 149, 151, 157, 126, 473, 474, 475, 476, 153, 154, 155, 156, 477, 478, 479, 480, 128, 434, 144, 130, 143, 131, 439, 440, 441, 481, 482, 483, 484, 142, 146, 485, 486, 487, 488, 489, 490, 491, 147, 694, 695, 696, 697, 698, 699, 700, 701, 702, 703, 704, 705, 706, 707, 708, 709, 710, 711, 712, 713, 714, 715, 716, 717, 718, 719, 720, 721, 722, 723, 724, 725, 726, 727, 728, 729, 730, 731, 732, 733, 734, 735, 736, 737, 738, 739, 740] (by decide +kernel) (by decide +kernel)
set_option maxRecDepth 20000 in
theorem gL_law_X8_close : GoodIn wsL_law (wsV RL 41 RX8 yX8_close wsX8_close) := goodIn_app (goodIn_of _ (by decide +kernel)) ggL_law_X8_close
set_option maxRecDepth 20000 in
theorem ggL_law_X7_due : GoodIn wsL_law wsX7_due := goodIn_r _ [495, 34, 496, 178, 179, 2, 180, 497, 498, 499, 500, 173, 687, 688, 689, 690, 691, 692, 693, 769, 770, 771, 772, 773, 774, 775, 776, 777, 778, 779, 780, 781, 782, 783, 784] (by decide +kernel) (by decide +kernel)
set_option maxRecDepth 20000 in
theorem gL_law_X7_due : GoodIn wsL_law (wsV RL 42 RX7 yX7_due wsX7_due) := goodIn_app (goodIn_of _ (by decide +kernel)) ggL_law_X7_due
set_option maxRecDepth 20000 in
theorem ggL_law_X8_due : GoodIn wsL_law wsX8_due := goodIn_r _ [504, 212, 146, 202, 203, 5, 204, 485, 486, 487, 694, 695, 696, 697, 698, 699, 700, 701, 702, 703, 704, 705, 706, 707, 708, 709, 710, 711, 712, 713, 714, 715, 716, 717, 718, 719, 720, 721, 722, 723, 724, 725, 726, 727, 728, 729, 730, 731, 732, 733, 734, 735, 736, 737, 738, 739, 740] (by decide +kernel) (by decide +kernel)
set_option maxRecDepth 20000 in
theorem gL_law_X8_due : GoodIn wsL_law (wsV RL 46 RX8 yX8_due wsX8_due) := goodIn_app (goodIn_of _ (by decide +kernel)) ggL_law_X8_due
set_option maxRecDepth 20000 in
theorem ggL_law_X7_hand : GoodIn wsL_law wsX7_hand := goodIn_r _ [508, 300, 34, 509, 510, 511, 35, 173, 178, 179, 2, 180, 512, 513, 514, 33, 515, 315, 423, 424, 425, 426, 86, 308, 309, 310, 311, 312, 313, 108, 314, 316, 317, 318, 319, 320, 97, 321, 322, 323, 324, 325, 326, 327, 328, 329, 93, 330, 89, 331, 332, 333, 84, 334, 335, 336, 337, 18, 338, 47, 48, 339, 340, 341, 342, 101, 343, 95, 344, 345, 346, 22, 347, 62, 348, 349, 350, 351, 61, 352, 353, 354, 355, 63, 356, 357, 358, 359, 91, 360, 361, 362, 363, 364, 365, 366, 367, 59, 368, 369, 370, 371, 58, 372, 373, 374, 375, 376, 377, 378, 14, 379, 40, 41, 380, 381, 382, 383, 384, 88, 87, 385, 83, 386, 387, 388, 100, 389, 390, 110, 111, 112, 113, 114, 226, 227, 391, 392, 393, 394, 49, 50, 395, 396, 397, 398, 399, 400, 401, 402, 403, 404, 405, 406, 407, 408, 115, 409, 410, 411, 412, 413, 414, 415, 416, 417, 418, 419, 420, 421, 422, 85, 516, 517, 518, 519, 520, 521, 522, 523, 524, 687, 688, 689, 690, 691, 692, 693, 769, 770, 771, 772, 773, 774, 775, 776, 777, 778, 779, 780, 781, 782, 783, 784, 760, 761, 762, 763, 764, 745, 746, 747, 748, 749, 750, 751, 752, 753, 785, 786, 787, 788, 789, 790, 791, 754, 755, 756, 757, 758, 759, 741, 742, 743, 744] (by decide +kernel) (by decide +kernel)
set_option maxRecDepth 20000 in
theorem gL_law_X7_hand : GoodIn wsL_law (wsV RL 47 RX7 yX7_hand wsX7_hand) := goodIn_app (goodIn_of _ (by decide +kernel)) ggL_law_X7_hand
set_option maxRecDepth 20000 in
theorem ggL_law_X8_hand : GoodIn wsL_law wsX8_hand := goodIn_r _ [528, 432, 141, 142, 147, 202, 203, 5, 204, 529, 530, 531, 532, 146, 485, 486, 487, 533, 534, 535, 536, 212, 537, 538, 539, 540, 143, 144, 145, 148, 541, 542, 543, 544, 431, 160, 158, 159, 435, 436, 437, 438, 434, 241, 124, 125, 439, 440, 441, 451, 452, 453, 454, 137, 136, 135, 132, 133, 134, 129, 127, 455, 456, 457, 458, 138, 140, 459, 460, 461, 462, 122, 123, 463, 464, 465, 466, 467, 120, 121, 468, 469, 470, 471, 472, 150, 152, 149, 151, 157, 126, 473, 474, 475, 476, 450, 153, 154, 155, 156, 477, 478, 479, 480, 128, 130, 131, 481, 482, 483, 484, 488, 489, 490, 491, 545, 546, 547, 548, 549, 550, 551, 552, 694, 695, 696, 697, 698, 699, 700, 701, 702, 703, 704, 705, 706, 707, 708, 709, 710, 711, 712, 713, 714, 715, 716, 717, 718, 719, 720, 721, 722, 723, 724, 725, 726, 727, 728, 729, 730, 731, 732, 733, 734, 735, 736, 737, 738, 739, 740] (by decide +kernel) (by decide +kernel)
set_option maxRecDepth 20000 in
theorem gL_law_X8_hand : GoodIn wsL_law (wsV RL 50 RX8 yX8_hand wsX8_hand) := goodIn_app (goodIn_of _ (by decide +kernel)) ggL_law_X8_hand
set_option maxRecDepth 20000 in
theorem ggL_law_X7_has : GoodIn wsL_law wsX7_has := goodIn_r _ [556, 19, 217, 300, 34, 557, 558, 559, 560, 561, 562, 33, 563, 93, 384, 399, 325, 87, 89, 687, 688, 689, 690, 691, 692, 693, 745, 746, 747, 748, 749, 750, 751, 752, 753, 769, 770, 771, 772, 773, 774, 775, 776, 777, 778, 779, 780, 781, 782, 783, 784] (by decide +kernel) (by decide +kernel)
set_option maxRecDepth 20000 in
theorem gL_law_X7_has : GoodIn wsL_law (wsV RL 51 RX7 yX7_has wsX7_has) := goodIn_app (goodIn_of _ (by decide +kernel)) ggL_law_X7_has
set_option maxRecDepth 20000 in
theorem ggL_law_X8_has : GoodIn wsL_law wsX8_has := goodIn_r _ [567, 241, 432, 143, 144, 124, 128, 434, 145, 568, 569, 570, 5, 571, 439, 440, 441, 694, 695, 696, 697, 698, 699, 700, 701, 702, 703, 704, 705, 706, 707, 708, 709, 710, 711, 712, 713, 714, 715, 716, 717, 718, 719, 720, 721, 722, 723, 724, 725, 726, 727, 728, 729, 730, 731, 732, 733, 734, 735, 736, 737, 738, 739, 740] (by decide +kernel) (by decide +kernel)
set_option maxRecDepth 20000 in
theorem gL_law_X8_has : GoodIn wsL_law (wsV RL 54 RX8 yX8_has wsX8_has) := goodIn_app (goodIn_of _ (by decide +kernel)) ggL_law_X8_has
set_option maxRecDepth 20000 in
theorem ggL_law_X7_told : GoodIn wsL_law wsX7_told := goodIn_r _ [575, 23, 497, 498, 499, 2, 500, 34, 173, 576, 577, 578, 579, 166, 167, 168, 580, 369, 370, 22, 371, 58, 581, 365, 366, 367, 59, 582, 353, 354, 355, 63, 583, 584, 585, 586, 60, 687, 688, 689, 690, 691, 692, 693, 769, 770, 771, 772, 773, 774, 775, 776, 777, 778, 779, 780, 781, 782, 783, 784, 754, 755, 756, 757, 758, 759] (by decide +kernel) (by decide +kernel)
set_option maxRecDepth 20000 in
theorem gL_law_X7_told : GoodIn wsL_law (wsV RL 55 RX7 yX7_told wsX7_told) := goodIn_app (goodIn_of _ (by decide +kernel)) ggL_law_X7_told
set_option maxRecDepth 20000 in
theorem ggL_law_X8_told : GoodIn wsL_law wsX8_told := goodIn_r _ [590, 212, 132, 133, 134, 135, 137, 136, 199, 200, 5, 201, 455, 456, 457, 458, 138, 140, 694, 695, 696, 697, 698, 699, 700, 701, 702, 703, 704, 705, 706, 707, 708, 709, 710, 711, 712, 713, 714, 715, 716, 717, 718, 719, 720, 721, 722, 723, 724, 725, 726, 727, 728, 729, 730, 731, 732, 733, 734, 735, 736, 737, 738, 739, 740] (by decide +kernel) (by decide +kernel)
set_option maxRecDepth 20000 in
theorem gL_law_X8_told : GoodIn wsL_law (wsV RL 59 RX8 yX8_told wsX8_told) := goodIn_app (goodIn_of _ (by decide +kernel)) ggL_law_X8_told
set_option maxRecDepth 20000 in
theorem ggL_law_X7_mend : GoodIn wsL_law wsX7_mend := goodIn_r _ [594, 23, 35, 173, 497, 498, 499, 2, 500, 34, 256, 257, 258, 259, 15, 165, 166, 167, 168, 260, 261, 262, 224, 263, 264, 265, 22, 266, 59, 60, 62, 61, 58, 595, 596, 597, 598, 63, 599, 600, 601, 33, 602, 83, 84, 85, 86, 87, 88, 89, 360, 315, 320, 603, 604, 605, 606, 607, 608, 609, 687, 688, 689, 690, 691, 692, 693, 769, 770, 771, 772, 773, 774, 775, 776, 777, 778, 779, 780, 781, 782, 783, 784, 741, 742, 743, 744, 754, 755, 756, 757, 758, 759] (by decide +kernel) (by decide +kernel)
set_option maxRecDepth 20000 in
theorem gL_law_X7_mend : GoodIn wsL_law (wsV RL 60 RX7 yX7_mend wsX7_mend) := goodIn_app (goodIn_of _ (by decide +kernel)) ggL_law_X7_mend
set_option maxRecDepth 20000 in
theorem ggL_law_X8_mend : GoodIn wsL_law wsX8_mend := goodIn_r _ [613, 212, 140, 271, 272, 273, 5, 274, 120, 199, 200, 201, 275, 276, 277, 251, 278, 279, 280, 281, 135, 136, 137, 132, 133, 134, 694, 695, 696, 697, 698, 699, 700, 701, 702, 703, 704, 705, 706, 707, 708, 709, 710, 711, 712, 713, 714, 715, 716, 717, 718, 719, 720, 721, 722, 723, 724, 725, 726, 727, 728, 729, 730, 731, 732, 733, 734, 735, 736, 737, 738, 739, 740] (by decide +kernel) (by decide +kernel)
set_option maxRecDepth 20000 in
theorem gL_law_X8_mend : GoodIn wsL_law (wsV RL 64 RX8 yX8_mend wsX8_mend) := goodIn_app (goodIn_of _ (by decide +kernel)) ggL_law_X8_mend
set_option maxRecDepth 20000 in
theorem ggL_law_X7_owe : GoodIn wsL_law wsX7_owe := goodIn_r _ [617, 35, 34, 173, 308, 309, 310, 33, 311, 312, 313, 108, 314, 315, 316, 317, 318, 319, 320, 97, 321, 322, 323, 324, 325, 326, 327, 328, 329, 93, 330, 89, 331, 332, 333, 84, 334, 335, 336, 337, 18, 338, 47, 48, 339, 340, 341, 342, 101, 343, 95, 344, 345, 346, 22, 347, 62, 348, 349, 350, 351, 61, 352, 353, 354, 355, 63, 356, 357, 358, 359, 91, 360, 361, 362, 363, 364, 365, 366, 367, 59, 368, 369, 370, 371, 58, 372, 373, 374, 375, 376, 377, 378, 14, 379, 40, 41, 380, 381, 382, 383, 384, 88, 87, 385, 83, 386, 387, 388, 100, 389, 390, 110, 111, 112, 113, 114, 226, 2, 227, 391, 392, 393, 394, 49, 50, 395, 396, 397, 398, 399, 400, 401, 402, 403, 404, 405, 406, 407, 408, 115, 409, 410, 411, 412, 413, 414, 415, 416, 417, 86, 418, 419, 420, 421, 422, 85, 423, 424, 425, 426, 516, 517, 518, 519, 520, 521, 522, 523, 524, 513, 514, 515, 687, 688, 689, 690, 691, 692, 693, 769, 770, 771, 772, 773, 774, 775, 776, 777, 778, 779, 780, 781, 782, 783, 784, 760, 761, 762, 763, 764, 745, 746, 747, 748, 749, 750, 751, 752, 753, 785, 786, 787, 788, 789, 790, 791, 754, 755, 756, 757, 758, 759, 741, 742, 743, 744] (by decide +kernel) (by decide +kernel)
set_option maxRecDepth 20000 in
theorem gL_law_X7_owe : GoodIn wsL_law (wsV RL 65 RX7 yX7_owe wsX7_owe) := goodIn_app (goodIn_of _ (by decide +kernel)) ggL_law_X7_owe
set_option maxRecDepth 20000 in
theorem ggL_law_X8_owe : GoodIn wsL_law wsX8_owe := goodIn_r _ [621, 533, 534, 535, 5, 536, 212, 537, 538, 539, 540, 141, 142, 147, 143, 144, 145, 146, 148, 541, 542, 543, 544, 431, 160, 158, 159, 435, 436, 437, 438, 434, 241, 124, 125, 439, 440, 441, 451, 452, 453, 454, 137, 136, 135, 132, 133, 134, 129, 127, 455, 456, 457, 458, 138, 140, 459, 460, 461, 462, 122, 123, 463, 464, 465, 466, 467, 120, 121, 468, 469, 470, 471, 472, 150, 152, 149, 151, 157, 126, 473, 474, 475, 476, 450, 153, 154, 155, 156, 477, 478, 479, 480, 128, 130, 131, 481, 482, 483, 484, 485, 486, 487, 488, 489, 490, 491, 545, 546, 547, 548, 549, 550, 551, 552, 529, 530, 531, 532, 694, 695, 696, 697, 698, 699, 700, 701, 702, 703, 704, 705, 706, 707, 708, 709, 710, 711, 712, 713, 714, 715, 716, 717, 718, 719, 720, 721, 722, 723, 724, 725, 726, 727, 728, 729, 730, 731, 732, 733, 734, 735, 736, 737, 738, 739, 740] (by decide +kernel) (by decide +kernel)
set_option maxRecDepth 20000 in
theorem gL_law_X8_owe : GoodIn wsL_law (wsV RL 69 RX8 yX8_owe wsX8_owe) := goodIn_app (goodIn_of _ (by decide +kernel)) ggL_law_X8_owe
set_option maxRecDepth 20000 in
theorem ggL_law_X7_settle : GoodIn wsL_law wsX7_settle := goodIn_r _ [625, 35, 34, 173, 626, 308, 309, 310, 33, 311, 312, 313, 108, 314, 315, 316, 317, 318, 319, 320, 97, 321, 322, 323, 324, 325, 326, 327, 328, 329, 93, 330, 89, 331, 332, 333, 84, 334, 335, 336, 337, 18, 338, 47, 48, 339, 340, 341, 342, 101, 343, 95, 344, 345, 346, 22, 347, 62, 348, 349, 350, 351, 61, 352, 353, 354, 355, 63, 356, 357, 358, 359, 91, 360, 361, 362, 363, 364, 365, 366, 367, 59, 368, 369, 370, 371, 58, 372, 373, 374, 375, 376, 377, 378, 14, 379, 40, 41, 380, 381, 382, 383, 384, 88, 87, 385, 83, 386, 387, 388, 100, 389, 390, 110, 111, 112, 113, 114, 226, 2, 227, 391, 392, 393, 394, 49, 50, 395, 396, 397, 398, 399, 400, 401, 402, 403, 404, 405, 406, 407, 408, 115, 409, 410, 411, 412, 413, 414, 415, 416, 417, 86, 418, 419, 420, 421, 422, 85, 423, 424, 425, 426, 516, 517, 518, 519, 520, 521, 522, 523, 524, 513, 514, 515, 627, 628, 629, 630, 631, 632, 633, 634, 635, 687, 688, 689, 690, 691, 692, 693, 769, 770, 771, 772, 773, 774, 775, 776, 777, 778, 779, 780, 781, 782, 783, 784, 760, 761, 762, 763, 764, 745, 746, 747, 748, 749, 750, 751, 752, 753, 785, 786, 787, 788, 789, 790, 791, 754, 755, 756, 757, 758, 759, 741, 742, 743, 744] (by decide +kernel) (by decide +kernel)
set_option maxRecDepth 20000 in
theorem gL_law_X7_settle : GoodIn wsL_law (wsV RL 70 RX7 yX7_settle wsX7_settle) := goodIn_app (goodIn_of _ (by decide +kernel)) ggL_law_X7_settle
set_option maxRecDepth 20000 in
theorem ggL_law_X8_settle : GoodIn wsL_law wsX8_settle := goodIn_r _ [639, 141, 142, 147, 143, 144, 145, 148, 640, 533, 534, 535, 5, 536, 212, 537, 538, 539, 540, 146, 541, 542, 543, 544, 431, 160, 158, 159, 435, 436, 437, 438, 434, 241, 124, 125, 439, 440, 441, 451, 452, 453, 454, 137, 136, 135, 132, 133, 134, 129, 127, 455, 456, 457, 458, 138, 140, 459, 460, 461, 462, 122, 123, 463, 464, 465, 466, 467, 120, 121, 468, 469, 470, 471, 472, 150, 152, 149, 151, 157, 126, 473, 474, 475, 476, 450, 153, 154, 155, 156, 477, 478, 479, 480, 128, 130, 131, 481, 482, 483, 484, 485, 486, 487, 488, 489, 490, 491, 545, 546, 547, 548, 549, 550, 551, 552, 529, 530, 531, 532, 694, 695, 696, 697, 698, 699, 700, 701, 702, 703, 704, 705, 706, 707, 708, 709, 710, 711, 712, 713, 714, 715, 716, 717, 718, 719, 720, 721, 722, 723, 724, 725, 726, 727, 728, 729, 730, 731, 732, 733, 734, 735, 736, 737, 738, 739, 740] (by decide +kernel) (by decide +kernel)
set_option maxRecDepth 20000 in
theorem gL_law_X8_settle : GoodIn wsL_law (wsV RL 73 RX8 yX8_settle wsX8_settle) := goodIn_app (goodIn_of _ (by decide +kernel)) ggL_law_X8_settle
set_option maxRecDepth 20000 in
theorem ggL_law_X7_line : GoodIn wsL_law wsX7_line := goodIn_r _ [644, 34, 645, 300, 646, 647, 648, 649, 650, 651, 652, 653, 100, 654, 390, 110, 655, 313, 108, 314, 687, 688, 689, 690, 691, 692, 693, 769, 770, 771, 772, 773, 774, 775, 776, 777, 778, 779, 780, 781, 782, 783, 784, 785, 786, 787, 788, 789, 790, 791] (by decide +kernel) (by decide +kernel)
set_option maxRecDepth 20000 in
theorem gL_law_X7_line : GoodIn wsL_law (wsV RL 74 RX7 yX7_line wsX7_line) := goodIn_app (goodIn_of _ (by decide +kernel)) ggL_law_X7_line
set_option maxRecDepth 20000 in
theorem ggL_law_X8_line : GoodIn wsL_law wsX8_line := goodIn_r _ [659, 450, 432, 153, 154, 155, 156, 157, 694, 695, 696, 697, 698, 699, 700, 701, 702, 703, 704, 705, 706, 707, 708, 709, 710, 711, 712, 713, 714, 715, 716, 717, 718, 719, 720, 721, 722, 723, 724, 725, 726, 727, 728, 729, 730, 731, 732, 733, 734, 735, 736, 737, 738, 739, 740] (by decide +kernel) (by decide +kernel)
set_option maxRecDepth 20000 in
theorem gL_law_X8_line : GoodIn wsL_law (wsV RL 77 RX8 yX8_line wsX8_line) := goodIn_app (goodIn_of _ (by decide +kernel)) ggL_law_X8_line
set_option maxRecDepth 20000 in
theorem ggL_law_X7_count : GoodIn wsL_law wsX7_count := goodIn_r _ [663, 34, 173, 19, 217, 645, 664, 665, 27, 666, 667, 23, 300, 626, 668, 669, 670, 33, 671, 85, 672, 673, 674, 22, 675, 63, 676, 677, 678, 679, 680, 681, 682, 687, 688, 689, 690, 691, 692, 693, 769, 770, 771, 772, 773, 774, 775, 776, 777, 778, 779, 780, 781, 782, 783, 784, 745, 746, 747, 748, 749, 750, 751, 752, 753, 785, 786, 787, 788, 789, 790, 791, 760, 761, 762, 763, 764, 754, 755, 756, 757, 758, 759] (by decide +kernel) (by decide +kernel)
set_option maxRecDepth 20000 in
theorem gL_law_X7_count : GoodIn wsL_law (wsV RL 78 RX7 yX7_count wsX7_count) := goodIn_app (goodIn_of _ (by decide +kernel)) ggL_law_X7_count
set_option maxRecDepth 20000 in
theorem ggL_law_X8_count : GoodIn wsL_law wsX8_count := goodIn_r _ [686, 212, 241, 450, 148, 147, 433, 432, 138, 640, 694, 695, 696, 697, 698, 699, 700, 701, 702, 703, 704, 705, 706, 707, 708, 709, 710, 711, 712, 713, 714, 715, 716, 717, 718, 719, 720, 721, 722, 723, 724, 725, 726, 727, 728, 729, 730, 731, 732, 733, 734, 735, 736, 737, 738, 739, 740] (by decide +kernel) (by decide +kernel)
set_option maxRecDepth 20000 in
theorem gL_law_X8_count : GoodIn wsL_law (wsV RL 82 RX8 yX8_count wsX8_count) := goodIn_app (goodIn_of _ (by decide +kernel)) ggL_law_X8_count
theorem dL_law_0 : decode cL_law 0 = .ok (.new 7, 3) := by decide +kernel
theorem dL_law_3 : decode cL_law 3 = .ok (.dup, 1) := by decide +kernel
theorem dL_law_4 : decode cL_law 4 = .ok (.invokespecial 9, 3) := by decide +kernel
theorem dL_law_7 : decode cL_law 7 = .ok (.astore_n 1, 1) := by decide +kernel
theorem dL_law_8 : decode cL_law 8 = .ok (.new 10, 3) := by decide +kernel
theorem dL_law_11 : decode cL_law 11 = .ok (.dup, 1) := by decide +kernel
theorem dL_law_12 : decode cL_law 12 = .ok (.invokespecial 12, 3) := by decide +kernel
theorem dL_law_15 : decode cL_law 15 = .ok (.astore_n 2, 1) := by decide +kernel
theorem dL_law_16 : decode cL_law 16 = .ok (.iconst 0, 1) := by decide +kernel
theorem dL_law_17 : decode cL_law 17 = .ok (.istore_n 3, 1) := by decide +kernel
theorem dL_law_18 : decode cL_law 18 = .ok (.iload_n 3, 1) := by decide +kernel
theorem dL_law_19 : decode cL_law 19 = .ok (.aload_n 0, 1) := by decide +kernel
theorem dL_law_20 : decode cL_law 20 = .ok (.arraylength, 1) := by decide +kernel
theorem dL_law_21 : decode cL_law 21 = .ok (.bipush 9, 2) := by decide +kernel
theorem dL_law_23 : decode cL_law 23 = .ok (.isub, 1) := by decide +kernel
theorem dL_law_24 : decode cL_law 24 = .ok (.if_icmp .gt 757, 3) := by decide +kernel
theorem dL_law_27 : decode cL_law 27 = .ok (.aload_n 0, 1) := by decide +kernel
theorem dL_law_28 : decode cL_law 28 = .ok (.iload_n 3, 1) := by decide +kernel
theorem dL_law_29 : decode cL_law 29 = .ok (.iaload, 1) := by decide +kernel
theorem dL_law_30 : decode cL_law 30 = .ok (.bipush 15, 2) := by decide +kernel
theorem dL_law_32 : decode cL_law 32 = .ok (.iand, 1) := by decide +kernel
theorem dL_law_33 : decode cL_law 33 = .ok (.tableswitch 742 0 14 #[75, 174, 273, 352, 375, 409, 422, 455, 489, 523, 566, 657, 671, 684, 718], 75) := by decide +kernel
theorem dL_law_108 : decode cL_law 108 = .ok (.aload_n 1, 1) := by decide +kernel
theorem dL_law_109 : decode cL_law 109 = .ok (.aload_n 0, 1) := by decide +kernel
theorem dL_law_110 : decode cL_law 110 = .ok (.iload_n 3, 1) := by decide +kernel
theorem dL_law_111 : decode cL_law 111 = .ok (.iconst 1, 1) := by decide +kernel
theorem dL_law_112 : decode cL_law 112 = .ok (.iadd, 1) := by decide +kernel
theorem dL_law_113 : decode cL_law 113 = .ok (.iaload, 1) := by decide +kernel
theorem dL_law_114 : decode cL_law 114 = .ok (.aload_n 0, 1) := by decide +kernel
theorem dL_law_115 : decode cL_law 115 = .ok (.iload_n 3, 1) := by decide +kernel
theorem dL_law_116 : decode cL_law 116 = .ok (.iconst 2, 1) := by decide +kernel
theorem dL_law_117 : decode cL_law 117 = .ok (.iadd, 1) := by decide +kernel
theorem dL_law_118 : decode cL_law 118 = .ok (.iaload, 1) := by decide +kernel
theorem dL_law_119 : decode cL_law 119 = .ok (.aload_n 0, 1) := by decide +kernel
theorem dL_law_120 : decode cL_law 120 = .ok (.iload_n 3, 1) := by decide +kernel
theorem dL_law_121 : decode cL_law 121 = .ok (.iconst 3, 1) := by decide +kernel
theorem dL_law_122 : decode cL_law 122 = .ok (.iadd, 1) := by decide +kernel
theorem dL_law_123 : decode cL_law 123 = .ok (.iaload, 1) := by decide +kernel
theorem dL_law_124 : decode cL_law 124 = .ok (.aload_n 0, 1) := by decide +kernel
theorem dL_law_125 : decode cL_law 125 = .ok (.iload_n 3, 1) := by decide +kernel
theorem dL_law_126 : decode cL_law 126 = .ok (.iconst 4, 1) := by decide +kernel
theorem dL_law_127 : decode cL_law 127 = .ok (.iadd, 1) := by decide +kernel
theorem dL_law_128 : decode cL_law 128 = .ok (.iaload, 1) := by decide +kernel
theorem dL_law_129 : decode cL_law 129 = .ok (.aload_n 0, 1) := by decide +kernel
theorem dL_law_130 : decode cL_law 130 = .ok (.iload_n 3, 1) := by decide +kernel
theorem dL_law_131 : decode cL_law 131 = .ok (.iconst 5, 1) := by decide +kernel
theorem dL_law_132 : decode cL_law 132 = .ok (.iadd, 1) := by decide +kernel
theorem dL_law_133 : decode cL_law 133 = .ok (.iaload, 1) := by decide +kernel
theorem dL_law_134 : decode cL_law 134 = .ok (.aload_n 0, 1) := by decide +kernel
theorem dL_law_135 : decode cL_law 135 = .ok (.iload_n 3, 1) := by decide +kernel
theorem dL_law_136 : decode cL_law 136 = .ok (.bipush 6, 2) := by decide +kernel
theorem dL_law_138 : decode cL_law 138 = .ok (.iadd, 1) := by decide +kernel
theorem dL_law_139 : decode cL_law 139 = .ok (.iaload, 1) := by decide +kernel
theorem dL_law_140 : decode cL_law 140 = .ok (.aload_n 0, 1) := by decide +kernel
theorem dL_law_141 : decode cL_law 141 = .ok (.iload_n 3, 1) := by decide +kernel
theorem dL_law_142 : decode cL_law 142 = .ok (.bipush 7, 2) := by decide +kernel
theorem dL_law_144 : decode cL_law 144 = .ok (.iadd, 1) := by decide +kernel
theorem dL_law_145 : decode cL_law 145 = .ok (.iaload, 1) := by decide +kernel
theorem dL_law_146 : decode cL_law 146 = .ok (.aload_n 0, 1) := by decide +kernel
theorem dL_law_147 : decode cL_law 147 = .ok (.iload_n 3, 1) := by decide +kernel
theorem dL_law_148 : decode cL_law 148 = .ok (.bipush 8, 2) := by decide +kernel
theorem dL_law_150 : decode cL_law 150 = .ok (.iadd, 1) := by decide +kernel
theorem dL_law_151 : decode cL_law 151 = .ok (.iaload, 1) := by decide +kernel
theorem dL_law_152 : decode cL_law 152 = .ok (.invokevirtual 13, 3) := by decide +kernel
theorem dL_law_155 : decode cL_law 155 = .ok (.aload_n 2, 1) := by decide +kernel
theorem dL_law_156 : decode cL_law 156 = .ok (.aload_n 0, 1) := by decide +kernel
theorem dL_law_157 : decode cL_law 157 = .ok (.iload_n 3, 1) := by decide +kernel
theorem dL_law_158 : decode cL_law 158 = .ok (.iconst 1, 1) := by decide +kernel
theorem dL_law_159 : decode cL_law 159 = .ok (.iadd, 1) := by decide +kernel
theorem dL_law_160 : decode cL_law 160 = .ok (.iaload, 1) := by decide +kernel
theorem dL_law_161 : decode cL_law 161 = .ok (.aload_n 0, 1) := by decide +kernel
theorem dL_law_162 : decode cL_law 162 = .ok (.iload_n 3, 1) := by decide +kernel
theorem dL_law_163 : decode cL_law 163 = .ok (.iconst 2, 1) := by decide +kernel
theorem dL_law_164 : decode cL_law 164 = .ok (.iadd, 1) := by decide +kernel
theorem dL_law_165 : decode cL_law 165 = .ok (.iaload, 1) := by decide +kernel
theorem dL_law_166 : decode cL_law 166 = .ok (.aload_n 0, 1) := by decide +kernel
theorem dL_law_167 : decode cL_law 167 = .ok (.iload_n 3, 1) := by decide +kernel
theorem dL_law_168 : decode cL_law 168 = .ok (.iconst 3, 1) := by decide +kernel
theorem dL_law_169 : decode cL_law 169 = .ok (.iadd, 1) := by decide +kernel
theorem dL_law_170 : decode cL_law 170 = .ok (.iaload, 1) := by decide +kernel
theorem dL_law_171 : decode cL_law 171 = .ok (.aload_n 0, 1) := by decide +kernel
theorem dL_law_172 : decode cL_law 172 = .ok (.iload_n 3, 1) := by decide +kernel
theorem dL_law_173 : decode cL_law 173 = .ok (.iconst 4, 1) := by decide +kernel
theorem dL_law_174 : decode cL_law 174 = .ok (.iadd, 1) := by decide +kernel
theorem dL_law_175 : decode cL_law 175 = .ok (.iaload, 1) := by decide +kernel
theorem dL_law_176 : decode cL_law 176 = .ok (.aload_n 0, 1) := by decide +kernel
theorem dL_law_177 : decode cL_law 177 = .ok (.iload_n 3, 1) := by decide +kernel
theorem dL_law_178 : decode cL_law 178 = .ok (.iconst 5, 1) := by decide +kernel
theorem dL_law_179 : decode cL_law 179 = .ok (.iadd, 1) := by decide +kernel
theorem dL_law_180 : decode cL_law 180 = .ok (.iaload, 1) := by decide +kernel
theorem dL_law_181 : decode cL_law 181 = .ok (.aload_n 0, 1) := by decide +kernel
theorem dL_law_182 : decode cL_law 182 = .ok (.iload_n 3, 1) := by decide +kernel
theorem dL_law_183 : decode cL_law 183 = .ok (.bipush 6, 2) := by decide +kernel
theorem dL_law_185 : decode cL_law 185 = .ok (.iadd, 1) := by decide +kernel
theorem dL_law_186 : decode cL_law 186 = .ok (.iaload, 1) := by decide +kernel
theorem dL_law_187 : decode cL_law 187 = .ok (.aload_n 0, 1) := by decide +kernel
theorem dL_law_188 : decode cL_law 188 = .ok (.iload_n 3, 1) := by decide +kernel
theorem dL_law_189 : decode cL_law 189 = .ok (.bipush 7, 2) := by decide +kernel
theorem dL_law_191 : decode cL_law 191 = .ok (.iadd, 1) := by decide +kernel
theorem dL_law_192 : decode cL_law 192 = .ok (.iaload, 1) := by decide +kernel
theorem dL_law_193 : decode cL_law 193 = .ok (.aload_n 0, 1) := by decide +kernel
theorem dL_law_194 : decode cL_law 194 = .ok (.iload_n 3, 1) := by decide +kernel
theorem dL_law_195 : decode cL_law 195 = .ok (.bipush 8, 2) := by decide +kernel
theorem dL_law_197 : decode cL_law 197 = .ok (.iadd, 1) := by decide +kernel
theorem dL_law_198 : decode cL_law 198 = .ok (.iaload, 1) := by decide +kernel
theorem dL_law_199 : decode cL_law 199 = .ok (.invokevirtual 17, 3) := by decide +kernel
theorem dL_law_202 : decode cL_law 202 = .ok (.if_icmp .eq 573, 3) := by decide +kernel
theorem dL_law_205 : decode cL_law 205 = .ok (.iconst 0, 1) := by decide +kernel
theorem dL_law_206 : decode cL_law 206 = .ok (.ireturn, 1) := by decide +kernel
theorem dL_law_207 : decode cL_law 207 = .ok (.aload_n 1, 1) := by decide +kernel
theorem dL_law_208 : decode cL_law 208 = .ok (.aload_n 0, 1) := by decide +kernel
theorem dL_law_209 : decode cL_law 209 = .ok (.iload_n 3, 1) := by decide +kernel
theorem dL_law_210 : decode cL_law 210 = .ok (.iconst 1, 1) := by decide +kernel
theorem dL_law_211 : decode cL_law 211 = .ok (.iadd, 1) := by decide +kernel
theorem dL_law_212 : decode cL_law 212 = .ok (.iaload, 1) := by decide +kernel
theorem dL_law_213 : decode cL_law 213 = .ok (.aload_n 0, 1) := by decide +kernel
theorem dL_law_214 : decode cL_law 214 = .ok (.iload_n 3, 1) := by decide +kernel
theorem dL_law_215 : decode cL_law 215 = .ok (.iconst 2, 1) := by decide +kernel
theorem dL_law_216 : decode cL_law 216 = .ok (.iadd, 1) := by decide +kernel
theorem dL_law_217 : decode cL_law 217 = .ok (.iaload, 1) := by decide +kernel
theorem dL_law_218 : decode cL_law 218 = .ok (.aload_n 0, 1) := by decide +kernel
theorem dL_law_219 : decode cL_law 219 = .ok (.iload_n 3, 1) := by decide +kernel
theorem dL_law_220 : decode cL_law 220 = .ok (.iconst 3, 1) := by decide +kernel
theorem dL_law_221 : decode cL_law 221 = .ok (.iadd, 1) := by decide +kernel
theorem dL_law_222 : decode cL_law 222 = .ok (.iaload, 1) := by decide +kernel
theorem dL_law_223 : decode cL_law 223 = .ok (.aload_n 0, 1) := by decide +kernel
theorem dL_law_224 : decode cL_law 224 = .ok (.iload_n 3, 1) := by decide +kernel
theorem dL_law_225 : decode cL_law 225 = .ok (.iconst 4, 1) := by decide +kernel
theorem dL_law_226 : decode cL_law 226 = .ok (.iadd, 1) := by decide +kernel
theorem dL_law_227 : decode cL_law 227 = .ok (.iaload, 1) := by decide +kernel
theorem dL_law_228 : decode cL_law 228 = .ok (.aload_n 0, 1) := by decide +kernel
theorem dL_law_229 : decode cL_law 229 = .ok (.iload_n 3, 1) := by decide +kernel
theorem dL_law_230 : decode cL_law 230 = .ok (.iconst 5, 1) := by decide +kernel
theorem dL_law_231 : decode cL_law 231 = .ok (.iadd, 1) := by decide +kernel
theorem dL_law_232 : decode cL_law 232 = .ok (.iaload, 1) := by decide +kernel
theorem dL_law_233 : decode cL_law 233 = .ok (.aload_n 0, 1) := by decide +kernel
theorem dL_law_234 : decode cL_law 234 = .ok (.iload_n 3, 1) := by decide +kernel
theorem dL_law_235 : decode cL_law 235 = .ok (.bipush 6, 2) := by decide +kernel
theorem dL_law_237 : decode cL_law 237 = .ok (.iadd, 1) := by decide +kernel
theorem dL_law_238 : decode cL_law 238 = .ok (.iaload, 1) := by decide +kernel
theorem dL_law_239 : decode cL_law 239 = .ok (.aload_n 0, 1) := by decide +kernel
theorem dL_law_240 : decode cL_law 240 = .ok (.iload_n 3, 1) := by decide +kernel
theorem dL_law_241 : decode cL_law 241 = .ok (.bipush 7, 2) := by decide +kernel
theorem dL_law_243 : decode cL_law 243 = .ok (.iadd, 1) := by decide +kernel
theorem dL_law_244 : decode cL_law 244 = .ok (.iaload, 1) := by decide +kernel
theorem dL_law_245 : decode cL_law 245 = .ok (.aload_n 0, 1) := by decide +kernel
theorem dL_law_246 : decode cL_law 246 = .ok (.iload_n 3, 1) := by decide +kernel
theorem dL_law_247 : decode cL_law 247 = .ok (.bipush 8, 2) := by decide +kernel
theorem dL_law_249 : decode cL_law 249 = .ok (.iadd, 1) := by decide +kernel
theorem dL_law_250 : decode cL_law 250 = .ok (.iaload, 1) := by decide +kernel
theorem dL_law_251 : decode cL_law 251 = .ok (.invokevirtual 18, 3) := by decide +kernel
theorem dL_law_254 : decode cL_law 254 = .ok (.aload_n 2, 1) := by decide +kernel
theorem dL_law_255 : decode cL_law 255 = .ok (.aload_n 0, 1) := by decide +kernel
theorem dL_law_256 : decode cL_law 256 = .ok (.iload_n 3, 1) := by decide +kernel
theorem dL_law_257 : decode cL_law 257 = .ok (.iconst 1, 1) := by decide +kernel
theorem dL_law_258 : decode cL_law 258 = .ok (.iadd, 1) := by decide +kernel
theorem dL_law_259 : decode cL_law 259 = .ok (.iaload, 1) := by decide +kernel
theorem dL_law_260 : decode cL_law 260 = .ok (.aload_n 0, 1) := by decide +kernel
theorem dL_law_261 : decode cL_law 261 = .ok (.iload_n 3, 1) := by decide +kernel
theorem dL_law_262 : decode cL_law 262 = .ok (.iconst 2, 1) := by decide +kernel
theorem dL_law_263 : decode cL_law 263 = .ok (.iadd, 1) := by decide +kernel
theorem dL_law_264 : decode cL_law 264 = .ok (.iaload, 1) := by decide +kernel
theorem dL_law_265 : decode cL_law 265 = .ok (.aload_n 0, 1) := by decide +kernel
theorem dL_law_266 : decode cL_law 266 = .ok (.iload_n 3, 1) := by decide +kernel
theorem dL_law_267 : decode cL_law 267 = .ok (.iconst 3, 1) := by decide +kernel
theorem dL_law_268 : decode cL_law 268 = .ok (.iadd, 1) := by decide +kernel
theorem dL_law_269 : decode cL_law 269 = .ok (.iaload, 1) := by decide +kernel
theorem dL_law_270 : decode cL_law 270 = .ok (.aload_n 0, 1) := by decide +kernel
theorem dL_law_271 : decode cL_law 271 = .ok (.iload_n 3, 1) := by decide +kernel
theorem dL_law_272 : decode cL_law 272 = .ok (.iconst 4, 1) := by decide +kernel
theorem dL_law_273 : decode cL_law 273 = .ok (.iadd, 1) := by decide +kernel
theorem dL_law_274 : decode cL_law 274 = .ok (.iaload, 1) := by decide +kernel
theorem dL_law_275 : decode cL_law 275 = .ok (.aload_n 0, 1) := by decide +kernel
theorem dL_law_276 : decode cL_law 276 = .ok (.iload_n 3, 1) := by decide +kernel
theorem dL_law_277 : decode cL_law 277 = .ok (.iconst 5, 1) := by decide +kernel
theorem dL_law_278 : decode cL_law 278 = .ok (.iadd, 1) := by decide +kernel
theorem dL_law_279 : decode cL_law 279 = .ok (.iaload, 1) := by decide +kernel
theorem dL_law_280 : decode cL_law 280 = .ok (.aload_n 0, 1) := by decide +kernel
theorem dL_law_281 : decode cL_law 281 = .ok (.iload_n 3, 1) := by decide +kernel
theorem dL_law_282 : decode cL_law 282 = .ok (.bipush 6, 2) := by decide +kernel
theorem dL_law_284 : decode cL_law 284 = .ok (.iadd, 1) := by decide +kernel
theorem dL_law_285 : decode cL_law 285 = .ok (.iaload, 1) := by decide +kernel
theorem dL_law_286 : decode cL_law 286 = .ok (.aload_n 0, 1) := by decide +kernel
theorem dL_law_287 : decode cL_law 287 = .ok (.iload_n 3, 1) := by decide +kernel
theorem dL_law_288 : decode cL_law 288 = .ok (.bipush 7, 2) := by decide +kernel
theorem dL_law_290 : decode cL_law 290 = .ok (.iadd, 1) := by decide +kernel
theorem dL_law_291 : decode cL_law 291 = .ok (.iaload, 1) := by decide +kernel
theorem dL_law_292 : decode cL_law 292 = .ok (.aload_n 0, 1) := by decide +kernel
theorem dL_law_293 : decode cL_law 293 = .ok (.iload_n 3, 1) := by decide +kernel
theorem dL_law_294 : decode cL_law 294 = .ok (.bipush 8, 2) := by decide +kernel
theorem dL_law_296 : decode cL_law 296 = .ok (.iadd, 1) := by decide +kernel
theorem dL_law_297 : decode cL_law 297 = .ok (.iaload, 1) := by decide +kernel
theorem dL_law_298 : decode cL_law 298 = .ok (.invokevirtual 21, 3) := by decide +kernel
theorem dL_law_301 : decode cL_law 301 = .ok (.if_icmp .eq 474, 3) := by decide +kernel
theorem dL_law_304 : decode cL_law 304 = .ok (.iconst 0, 1) := by decide +kernel
theorem dL_law_305 : decode cL_law 305 = .ok (.ireturn, 1) := by decide +kernel
theorem dL_law_306 : decode cL_law 306 = .ok (.aload_n 1, 1) := by decide +kernel
theorem dL_law_307 : decode cL_law 307 = .ok (.aload_n 0, 1) := by decide +kernel
theorem dL_law_308 : decode cL_law 308 = .ok (.iload_n 3, 1) := by decide +kernel
theorem dL_law_309 : decode cL_law 309 = .ok (.iconst 1, 1) := by decide +kernel
theorem dL_law_310 : decode cL_law 310 = .ok (.iadd, 1) := by decide +kernel
theorem dL_law_311 : decode cL_law 311 = .ok (.iaload, 1) := by decide +kernel
theorem dL_law_312 : decode cL_law 312 = .ok (.aload_n 0, 1) := by decide +kernel
theorem dL_law_313 : decode cL_law 313 = .ok (.iload_n 3, 1) := by decide +kernel
theorem dL_law_314 : decode cL_law 314 = .ok (.iconst 2, 1) := by decide +kernel
theorem dL_law_315 : decode cL_law 315 = .ok (.iadd, 1) := by decide +kernel
theorem dL_law_316 : decode cL_law 316 = .ok (.iaload, 1) := by decide +kernel
theorem dL_law_317 : decode cL_law 317 = .ok (.aload_n 0, 1) := by decide +kernel
theorem dL_law_318 : decode cL_law 318 = .ok (.iload_n 3, 1) := by decide +kernel
theorem dL_law_319 : decode cL_law 319 = .ok (.iconst 3, 1) := by decide +kernel
theorem dL_law_320 : decode cL_law 320 = .ok (.iadd, 1) := by decide +kernel
theorem dL_law_321 : decode cL_law 321 = .ok (.iaload, 1) := by decide +kernel
theorem dL_law_322 : decode cL_law 322 = .ok (.aload_n 0, 1) := by decide +kernel
theorem dL_law_323 : decode cL_law 323 = .ok (.iload_n 3, 1) := by decide +kernel
theorem dL_law_324 : decode cL_law 324 = .ok (.iconst 4, 1) := by decide +kernel
theorem dL_law_325 : decode cL_law 325 = .ok (.iadd, 1) := by decide +kernel
theorem dL_law_326 : decode cL_law 326 = .ok (.iaload, 1) := by decide +kernel
theorem dL_law_327 : decode cL_law 327 = .ok (.aload_n 0, 1) := by decide +kernel
theorem dL_law_328 : decode cL_law 328 = .ok (.iload_n 3, 1) := by decide +kernel
theorem dL_law_329 : decode cL_law 329 = .ok (.iconst 5, 1) := by decide +kernel
theorem dL_law_330 : decode cL_law 330 = .ok (.iadd, 1) := by decide +kernel
theorem dL_law_331 : decode cL_law 331 = .ok (.iaload, 1) := by decide +kernel
theorem dL_law_332 : decode cL_law 332 = .ok (.ifCond .eq 7, 3) := by decide +kernel
theorem dL_law_335 : decode cL_law 335 = .ok (.iconst 1, 1) := by decide +kernel
theorem dL_law_336 : decode cL_law 336 = .ok (.goto 4, 3) := by decide +kernel
theorem dL_law_339 : decode cL_law 339 = .ok (.iconst 0, 1) := by decide +kernel
theorem dL_law_340 : decode cL_law 340 = .ok (.invokevirtual 22, 3) := by decide +kernel
theorem dL_law_343 : decode cL_law 343 = .ok (.aload_n 2, 1) := by decide +kernel
theorem dL_law_344 : decode cL_law 344 = .ok (.aload_n 0, 1) := by decide +kernel
theorem dL_law_345 : decode cL_law 345 = .ok (.iload_n 3, 1) := by decide +kernel
theorem dL_law_346 : decode cL_law 346 = .ok (.iconst 1, 1) := by decide +kernel
theorem dL_law_347 : decode cL_law 347 = .ok (.iadd, 1) := by decide +kernel
theorem dL_law_348 : decode cL_law 348 = .ok (.iaload, 1) := by decide +kernel
theorem dL_law_349 : decode cL_law 349 = .ok (.aload_n 0, 1) := by decide +kernel
theorem dL_law_350 : decode cL_law 350 = .ok (.iload_n 3, 1) := by decide +kernel
theorem dL_law_351 : decode cL_law 351 = .ok (.iconst 2, 1) := by decide +kernel
theorem dL_law_352 : decode cL_law 352 = .ok (.iadd, 1) := by decide +kernel
theorem dL_law_353 : decode cL_law 353 = .ok (.iaload, 1) := by decide +kernel
theorem dL_law_354 : decode cL_law 354 = .ok (.aload_n 0, 1) := by decide +kernel
theorem dL_law_355 : decode cL_law 355 = .ok (.iload_n 3, 1) := by decide +kernel
theorem dL_law_356 : decode cL_law 356 = .ok (.iconst 3, 1) := by decide +kernel
theorem dL_law_357 : decode cL_law 357 = .ok (.iadd, 1) := by decide +kernel
theorem dL_law_358 : decode cL_law 358 = .ok (.iaload, 1) := by decide +kernel
theorem dL_law_359 : decode cL_law 359 = .ok (.aload_n 0, 1) := by decide +kernel
theorem dL_law_360 : decode cL_law 360 = .ok (.iload_n 3, 1) := by decide +kernel
theorem dL_law_361 : decode cL_law 361 = .ok (.iconst 4, 1) := by decide +kernel
theorem dL_law_362 : decode cL_law 362 = .ok (.iadd, 1) := by decide +kernel
theorem dL_law_363 : decode cL_law 363 = .ok (.iaload, 1) := by decide +kernel
theorem dL_law_364 : decode cL_law 364 = .ok (.aload_n 0, 1) := by decide +kernel
theorem dL_law_365 : decode cL_law 365 = .ok (.iload_n 3, 1) := by decide +kernel
theorem dL_law_366 : decode cL_law 366 = .ok (.iconst 5, 1) := by decide +kernel
theorem dL_law_367 : decode cL_law 367 = .ok (.iadd, 1) := by decide +kernel
theorem dL_law_368 : decode cL_law 368 = .ok (.iaload, 1) := by decide +kernel
theorem dL_law_369 : decode cL_law 369 = .ok (.ifCond .eq 7, 3) := by decide +kernel
theorem dL_law_372 : decode cL_law 372 = .ok (.iconst 1, 1) := by decide +kernel
theorem dL_law_373 : decode cL_law 373 = .ok (.goto 4, 3) := by decide +kernel
theorem dL_law_376 : decode cL_law 376 = .ok (.iconst 0, 1) := by decide +kernel
theorem dL_law_377 : decode cL_law 377 = .ok (.invokevirtual 26, 3) := by decide +kernel
theorem dL_law_380 : decode cL_law 380 = .ok (.if_icmp .eq 395, 3) := by decide +kernel
theorem dL_law_383 : decode cL_law 383 = .ok (.iconst 0, 1) := by decide +kernel
theorem dL_law_384 : decode cL_law 384 = .ok (.ireturn, 1) := by decide +kernel
theorem dL_law_385 : decode cL_law 385 = .ok (.aload_n 1, 1) := by decide +kernel
theorem dL_law_386 : decode cL_law 386 = .ok (.aload_n 0, 1) := by decide +kernel
theorem dL_law_387 : decode cL_law 387 = .ok (.iload_n 3, 1) := by decide +kernel
theorem dL_law_388 : decode cL_law 388 = .ok (.iconst 1, 1) := by decide +kernel
theorem dL_law_389 : decode cL_law 389 = .ok (.iadd, 1) := by decide +kernel
theorem dL_law_390 : decode cL_law 390 = .ok (.iaload, 1) := by decide +kernel
theorem dL_law_391 : decode cL_law 391 = .ok (.invokevirtual 27, 3) := by decide +kernel
theorem dL_law_394 : decode cL_law 394 = .ok (.aload_n 2, 1) := by decide +kernel
theorem dL_law_395 : decode cL_law 395 = .ok (.aload_n 0, 1) := by decide +kernel
theorem dL_law_396 : decode cL_law 396 = .ok (.iload_n 3, 1) := by decide +kernel
theorem dL_law_397 : decode cL_law 397 = .ok (.iconst 1, 1) := by decide +kernel
theorem dL_law_398 : decode cL_law 398 = .ok (.iadd, 1) := by decide +kernel
theorem dL_law_399 : decode cL_law 399 = .ok (.iaload, 1) := by decide +kernel
theorem dL_law_400 : decode cL_law 400 = .ok (.invokevirtual 31, 3) := by decide +kernel
theorem dL_law_403 : decode cL_law 403 = .ok (.if_icmp .eq 372, 3) := by decide +kernel
theorem dL_law_406 : decode cL_law 406 = .ok (.iconst 0, 1) := by decide +kernel
theorem dL_law_407 : decode cL_law 407 = .ok (.ireturn, 1) := by decide +kernel
theorem dL_law_408 : decode cL_law 408 = .ok (.aload_n 1, 1) := by decide +kernel
theorem dL_law_409 : decode cL_law 409 = .ok (.aload_n 0, 1) := by decide +kernel
theorem dL_law_410 : decode cL_law 410 = .ok (.iload_n 3, 1) := by decide +kernel
theorem dL_law_411 : decode cL_law 411 = .ok (.iconst 1, 1) := by decide +kernel
theorem dL_law_412 : decode cL_law 412 = .ok (.iadd, 1) := by decide +kernel
theorem dL_law_413 : decode cL_law 413 = .ok (.iaload, 1) := by decide +kernel
theorem dL_law_414 : decode cL_law 414 = .ok (.aload_n 0, 1) := by decide +kernel
theorem dL_law_415 : decode cL_law 415 = .ok (.iload_n 3, 1) := by decide +kernel
theorem dL_law_416 : decode cL_law 416 = .ok (.iconst 2, 1) := by decide +kernel
theorem dL_law_417 : decode cL_law 417 = .ok (.iadd, 1) := by decide +kernel
theorem dL_law_418 : decode cL_law 418 = .ok (.iaload, 1) := by decide +kernel
theorem dL_law_419 : decode cL_law 419 = .ok (.invokevirtual 32, 3) := by decide +kernel
theorem dL_law_422 : decode cL_law 422 = .ok (.aload_n 2, 1) := by decide +kernel
theorem dL_law_423 : decode cL_law 423 = .ok (.aload_n 0, 1) := by decide +kernel
theorem dL_law_424 : decode cL_law 424 = .ok (.iload_n 3, 1) := by decide +kernel
theorem dL_law_425 : decode cL_law 425 = .ok (.iconst 1, 1) := by decide +kernel
theorem dL_law_426 : decode cL_law 426 = .ok (.iadd, 1) := by decide +kernel
theorem dL_law_427 : decode cL_law 427 = .ok (.iaload, 1) := by decide +kernel
theorem dL_law_428 : decode cL_law 428 = .ok (.aload_n 0, 1) := by decide +kernel
theorem dL_law_429 : decode cL_law 429 = .ok (.iload_n 3, 1) := by decide +kernel
theorem dL_law_430 : decode cL_law 430 = .ok (.iconst 2, 1) := by decide +kernel
theorem dL_law_431 : decode cL_law 431 = .ok (.iadd, 1) := by decide +kernel
theorem dL_law_432 : decode cL_law 432 = .ok (.iaload, 1) := by decide +kernel
theorem dL_law_433 : decode cL_law 433 = .ok (.invokevirtual 36, 3) := by decide +kernel
theorem dL_law_436 : decode cL_law 436 = .ok (.lcmp, 1) := by decide +kernel
theorem dL_law_437 : decode cL_law 437 = .ok (.ifCond .eq 338, 3) := by decide +kernel
theorem dL_law_440 : decode cL_law 440 = .ok (.iconst 0, 1) := by decide +kernel
theorem dL_law_441 : decode cL_law 441 = .ok (.ireturn, 1) := by decide +kernel
theorem dL_law_442 : decode cL_law 442 = .ok (.aload_n 1, 1) := by decide +kernel
theorem dL_law_443 : decode cL_law 443 = .ok (.invokevirtual 37, 3) := by decide +kernel
theorem dL_law_446 : decode cL_law 446 = .ok (.aload_n 2, 1) := by decide +kernel
theorem dL_law_447 : decode cL_law 447 = .ok (.invokevirtual 41, 3) := by decide +kernel
theorem dL_law_450 : decode cL_law 450 = .ok (.if_icmp .eq 325, 3) := by decide +kernel
theorem dL_law_453 : decode cL_law 453 = .ok (.iconst 0, 1) := by decide +kernel
theorem dL_law_454 : decode cL_law 454 = .ok (.ireturn, 1) := by decide +kernel
theorem dL_law_455 : decode cL_law 455 = .ok (.aload_n 1, 1) := by decide +kernel
theorem dL_law_456 : decode cL_law 456 = .ok (.aload_n 0, 1) := by decide +kernel
theorem dL_law_457 : decode cL_law 457 = .ok (.iload_n 3, 1) := by decide +kernel
theorem dL_law_458 : decode cL_law 458 = .ok (.iconst 1, 1) := by decide +kernel
theorem dL_law_459 : decode cL_law 459 = .ok (.iadd, 1) := by decide +kernel
theorem dL_law_460 : decode cL_law 460 = .ok (.iaload, 1) := by decide +kernel
theorem dL_law_461 : decode cL_law 461 = .ok (.aload_n 0, 1) := by decide +kernel
theorem dL_law_462 : decode cL_law 462 = .ok (.iload_n 3, 1) := by decide +kernel
theorem dL_law_463 : decode cL_law 463 = .ok (.iconst 2, 1) := by decide +kernel
theorem dL_law_464 : decode cL_law 464 = .ok (.iadd, 1) := by decide +kernel
theorem dL_law_465 : decode cL_law 465 = .ok (.iaload, 1) := by decide +kernel
theorem dL_law_466 : decode cL_law 466 = .ok (.invokevirtual 42, 3) := by decide +kernel
theorem dL_law_469 : decode cL_law 469 = .ok (.aload_n 2, 1) := by decide +kernel
theorem dL_law_470 : decode cL_law 470 = .ok (.aload_n 0, 1) := by decide +kernel
theorem dL_law_471 : decode cL_law 471 = .ok (.iload_n 3, 1) := by decide +kernel
theorem dL_law_472 : decode cL_law 472 = .ok (.iconst 1, 1) := by decide +kernel
theorem dL_law_473 : decode cL_law 473 = .ok (.iadd, 1) := by decide +kernel
theorem dL_law_474 : decode cL_law 474 = .ok (.iaload, 1) := by decide +kernel
theorem dL_law_475 : decode cL_law 475 = .ok (.aload_n 0, 1) := by decide +kernel
theorem dL_law_476 : decode cL_law 476 = .ok (.iload_n 3, 1) := by decide +kernel
theorem dL_law_477 : decode cL_law 477 = .ok (.iconst 2, 1) := by decide +kernel
theorem dL_law_478 : decode cL_law 478 = .ok (.iadd, 1) := by decide +kernel
theorem dL_law_479 : decode cL_law 479 = .ok (.iaload, 1) := by decide +kernel
theorem dL_law_480 : decode cL_law 480 = .ok (.invokevirtual 46, 3) := by decide +kernel
theorem dL_law_483 : decode cL_law 483 = .ok (.if_icmp .eq 292, 3) := by decide +kernel
theorem dL_law_486 : decode cL_law 486 = .ok (.iconst 0, 1) := by decide +kernel
theorem dL_law_487 : decode cL_law 487 = .ok (.ireturn, 1) := by decide +kernel
theorem dL_law_488 : decode cL_law 488 = .ok (.aload_n 1, 1) := by decide +kernel
theorem dL_law_489 : decode cL_law 489 = .ok (.aload_n 0, 1) := by decide +kernel
theorem dL_law_490 : decode cL_law 490 = .ok (.iload_n 3, 1) := by decide +kernel
theorem dL_law_491 : decode cL_law 491 = .ok (.iconst 1, 1) := by decide +kernel
theorem dL_law_492 : decode cL_law 492 = .ok (.iadd, 1) := by decide +kernel
theorem dL_law_493 : decode cL_law 493 = .ok (.iaload, 1) := by decide +kernel
theorem dL_law_494 : decode cL_law 494 = .ok (.aload_n 0, 1) := by decide +kernel
theorem dL_law_495 : decode cL_law 495 = .ok (.iload_n 3, 1) := by decide +kernel
theorem dL_law_496 : decode cL_law 496 = .ok (.iconst 2, 1) := by decide +kernel
theorem dL_law_497 : decode cL_law 497 = .ok (.iadd, 1) := by decide +kernel
theorem dL_law_498 : decode cL_law 498 = .ok (.iaload, 1) := by decide +kernel
theorem dL_law_499 : decode cL_law 499 = .ok (.invokevirtual 47, 3) := by decide +kernel
theorem dL_law_502 : decode cL_law 502 = .ok (.aload_n 2, 1) := by decide +kernel
theorem dL_law_503 : decode cL_law 503 = .ok (.aload_n 0, 1) := by decide +kernel
theorem dL_law_504 : decode cL_law 504 = .ok (.iload_n 3, 1) := by decide +kernel
theorem dL_law_505 : decode cL_law 505 = .ok (.iconst 1, 1) := by decide +kernel
theorem dL_law_506 : decode cL_law 506 = .ok (.iadd, 1) := by decide +kernel
theorem dL_law_507 : decode cL_law 507 = .ok (.iaload, 1) := by decide +kernel
theorem dL_law_508 : decode cL_law 508 = .ok (.aload_n 0, 1) := by decide +kernel
theorem dL_law_509 : decode cL_law 509 = .ok (.iload_n 3, 1) := by decide +kernel
theorem dL_law_510 : decode cL_law 510 = .ok (.iconst 2, 1) := by decide +kernel
theorem dL_law_511 : decode cL_law 511 = .ok (.iadd, 1) := by decide +kernel
theorem dL_law_512 : decode cL_law 512 = .ok (.iaload, 1) := by decide +kernel
theorem dL_law_513 : decode cL_law 513 = .ok (.invokevirtual 50, 3) := by decide +kernel
theorem dL_law_516 : decode cL_law 516 = .ok (.lcmp, 1) := by decide +kernel
theorem dL_law_517 : decode cL_law 517 = .ok (.ifCond .eq 258, 3) := by decide +kernel
theorem dL_law_520 : decode cL_law 520 = .ok (.iconst 0, 1) := by decide +kernel
theorem dL_law_521 : decode cL_law 521 = .ok (.ireturn, 1) := by decide +kernel
theorem dL_law_522 : decode cL_law 522 = .ok (.aload_n 1, 1) := by decide +kernel
theorem dL_law_523 : decode cL_law 523 = .ok (.aload_n 0, 1) := by decide +kernel
theorem dL_law_524 : decode cL_law 524 = .ok (.iload_n 3, 1) := by decide +kernel
theorem dL_law_525 : decode cL_law 525 = .ok (.iconst 1, 1) := by decide +kernel
theorem dL_law_526 : decode cL_law 526 = .ok (.iadd, 1) := by decide +kernel
theorem dL_law_527 : decode cL_law 527 = .ok (.iaload, 1) := by decide +kernel
theorem dL_law_528 : decode cL_law 528 = .ok (.aload_n 0, 1) := by decide +kernel
theorem dL_law_529 : decode cL_law 529 = .ok (.iload_n 3, 1) := by decide +kernel
theorem dL_law_530 : decode cL_law 530 = .ok (.iconst 2, 1) := by decide +kernel
theorem dL_law_531 : decode cL_law 531 = .ok (.iadd, 1) := by decide +kernel
theorem dL_law_532 : decode cL_law 532 = .ok (.iaload, 1) := by decide +kernel
theorem dL_law_533 : decode cL_law 533 = .ok (.invokevirtual 51, 3) := by decide +kernel
theorem dL_law_536 : decode cL_law 536 = .ok (.aload_n 2, 1) := by decide +kernel
theorem dL_law_537 : decode cL_law 537 = .ok (.aload_n 0, 1) := by decide +kernel
theorem dL_law_538 : decode cL_law 538 = .ok (.iload_n 3, 1) := by decide +kernel
theorem dL_law_539 : decode cL_law 539 = .ok (.iconst 1, 1) := by decide +kernel
theorem dL_law_540 : decode cL_law 540 = .ok (.iadd, 1) := by decide +kernel
theorem dL_law_541 : decode cL_law 541 = .ok (.iaload, 1) := by decide +kernel
theorem dL_law_542 : decode cL_law 542 = .ok (.aload_n 0, 1) := by decide +kernel
theorem dL_law_543 : decode cL_law 543 = .ok (.iload_n 3, 1) := by decide +kernel
theorem dL_law_544 : decode cL_law 544 = .ok (.iconst 2, 1) := by decide +kernel
theorem dL_law_545 : decode cL_law 545 = .ok (.iadd, 1) := by decide +kernel
theorem dL_law_546 : decode cL_law 546 = .ok (.iaload, 1) := by decide +kernel
theorem dL_law_547 : decode cL_law 547 = .ok (.invokevirtual 54, 3) := by decide +kernel
theorem dL_law_550 : decode cL_law 550 = .ok (.lcmp, 1) := by decide +kernel
theorem dL_law_551 : decode cL_law 551 = .ok (.ifCond .eq 224, 3) := by decide +kernel
theorem dL_law_554 : decode cL_law 554 = .ok (.iconst 0, 1) := by decide +kernel
theorem dL_law_555 : decode cL_law 555 = .ok (.ireturn, 1) := by decide +kernel
theorem dL_law_556 : decode cL_law 556 = .ok (.aload_n 1, 1) := by decide +kernel
theorem dL_law_557 : decode cL_law 557 = .ok (.aload_n 0, 1) := by decide +kernel
theorem dL_law_558 : decode cL_law 558 = .ok (.iload_n 3, 1) := by decide +kernel
theorem dL_law_559 : decode cL_law 559 = .ok (.iconst 1, 1) := by decide +kernel
theorem dL_law_560 : decode cL_law 560 = .ok (.iadd, 1) := by decide +kernel
theorem dL_law_561 : decode cL_law 561 = .ok (.iaload, 1) := by decide +kernel
theorem dL_law_562 : decode cL_law 562 = .ok (.aload_n 0, 1) := by decide +kernel
theorem dL_law_563 : decode cL_law 563 = .ok (.iload_n 3, 1) := by decide +kernel
theorem dL_law_564 : decode cL_law 564 = .ok (.iconst 2, 1) := by decide +kernel
theorem dL_law_565 : decode cL_law 565 = .ok (.iadd, 1) := by decide +kernel
theorem dL_law_566 : decode cL_law 566 = .ok (.iaload, 1) := by decide +kernel
theorem dL_law_567 : decode cL_law 567 = .ok (.aload_n 0, 1) := by decide +kernel
theorem dL_law_568 : decode cL_law 568 = .ok (.iload_n 3, 1) := by decide +kernel
theorem dL_law_569 : decode cL_law 569 = .ok (.iconst 3, 1) := by decide +kernel
theorem dL_law_570 : decode cL_law 570 = .ok (.iadd, 1) := by decide +kernel
theorem dL_law_571 : decode cL_law 571 = .ok (.iaload, 1) := by decide +kernel
theorem dL_law_572 : decode cL_law 572 = .ok (.invokevirtual 55, 3) := by decide +kernel
theorem dL_law_575 : decode cL_law 575 = .ok (.aload_n 2, 1) := by decide +kernel
theorem dL_law_576 : decode cL_law 576 = .ok (.aload_n 0, 1) := by decide +kernel
theorem dL_law_577 : decode cL_law 577 = .ok (.iload_n 3, 1) := by decide +kernel
theorem dL_law_578 : decode cL_law 578 = .ok (.iconst 1, 1) := by decide +kernel
theorem dL_law_579 : decode cL_law 579 = .ok (.iadd, 1) := by decide +kernel
theorem dL_law_580 : decode cL_law 580 = .ok (.iaload, 1) := by decide +kernel
theorem dL_law_581 : decode cL_law 581 = .ok (.aload_n 0, 1) := by decide +kernel
theorem dL_law_582 : decode cL_law 582 = .ok (.iload_n 3, 1) := by decide +kernel
theorem dL_law_583 : decode cL_law 583 = .ok (.iconst 2, 1) := by decide +kernel
theorem dL_law_584 : decode cL_law 584 = .ok (.iadd, 1) := by decide +kernel
theorem dL_law_585 : decode cL_law 585 = .ok (.iaload, 1) := by decide +kernel
theorem dL_law_586 : decode cL_law 586 = .ok (.aload_n 0, 1) := by decide +kernel
theorem dL_law_587 : decode cL_law 587 = .ok (.iload_n 3, 1) := by decide +kernel
theorem dL_law_588 : decode cL_law 588 = .ok (.iconst 3, 1) := by decide +kernel
theorem dL_law_589 : decode cL_law 589 = .ok (.iadd, 1) := by decide +kernel
theorem dL_law_590 : decode cL_law 590 = .ok (.iaload, 1) := by decide +kernel
theorem dL_law_591 : decode cL_law 591 = .ok (.invokevirtual 59, 3) := by decide +kernel
theorem dL_law_594 : decode cL_law 594 = .ok (.if_icmp .eq 181, 3) := by decide +kernel
theorem dL_law_597 : decode cL_law 597 = .ok (.iconst 0, 1) := by decide +kernel
theorem dL_law_598 : decode cL_law 598 = .ok (.ireturn, 1) := by decide +kernel
theorem dL_law_599 : decode cL_law 599 = .ok (.aload_n 1, 1) := by decide +kernel
theorem dL_law_600 : decode cL_law 600 = .ok (.aload_n 0, 1) := by decide +kernel
theorem dL_law_601 : decode cL_law 601 = .ok (.iload_n 3, 1) := by decide +kernel
theorem dL_law_602 : decode cL_law 602 = .ok (.iconst 1, 1) := by decide +kernel
theorem dL_law_603 : decode cL_law 603 = .ok (.iadd, 1) := by decide +kernel
theorem dL_law_604 : decode cL_law 604 = .ok (.iaload, 1) := by decide +kernel
theorem dL_law_605 : decode cL_law 605 = .ok (.aload_n 0, 1) := by decide +kernel
theorem dL_law_606 : decode cL_law 606 = .ok (.iload_n 3, 1) := by decide +kernel
theorem dL_law_607 : decode cL_law 607 = .ok (.iconst 2, 1) := by decide +kernel
theorem dL_law_608 : decode cL_law 608 = .ok (.iadd, 1) := by decide +kernel
theorem dL_law_609 : decode cL_law 609 = .ok (.iaload, 1) := by decide +kernel
theorem dL_law_610 : decode cL_law 610 = .ok (.aload_n 0, 1) := by decide +kernel
theorem dL_law_611 : decode cL_law 611 = .ok (.iload_n 3, 1) := by decide +kernel
theorem dL_law_612 : decode cL_law 612 = .ok (.iconst 3, 1) := by decide +kernel
theorem dL_law_613 : decode cL_law 613 = .ok (.iadd, 1) := by decide +kernel
theorem dL_law_614 : decode cL_law 614 = .ok (.iaload, 1) := by decide +kernel
theorem dL_law_615 : decode cL_law 615 = .ok (.aload_n 0, 1) := by decide +kernel
theorem dL_law_616 : decode cL_law 616 = .ok (.iload_n 3, 1) := by decide +kernel
theorem dL_law_617 : decode cL_law 617 = .ok (.iconst 4, 1) := by decide +kernel
theorem dL_law_618 : decode cL_law 618 = .ok (.iadd, 1) := by decide +kernel
theorem dL_law_619 : decode cL_law 619 = .ok (.iaload, 1) := by decide +kernel
theorem dL_law_620 : decode cL_law 620 = .ok (.aload_n 0, 1) := by decide +kernel
theorem dL_law_621 : decode cL_law 621 = .ok (.iload_n 3, 1) := by decide +kernel
theorem dL_law_622 : decode cL_law 622 = .ok (.iconst 5, 1) := by decide +kernel
theorem dL_law_623 : decode cL_law 623 = .ok (.iadd, 1) := by decide +kernel
theorem dL_law_624 : decode cL_law 624 = .ok (.iaload, 1) := by decide +kernel
theorem dL_law_625 : decode cL_law 625 = .ok (.aload_n 0, 1) := by decide +kernel
theorem dL_law_626 : decode cL_law 626 = .ok (.iload_n 3, 1) := by decide +kernel
theorem dL_law_627 : decode cL_law 627 = .ok (.bipush 6, 2) := by decide +kernel
theorem dL_law_629 : decode cL_law 629 = .ok (.iadd, 1) := by decide +kernel
theorem dL_law_630 : decode cL_law 630 = .ok (.iaload, 1) := by decide +kernel
theorem dL_law_631 : decode cL_law 631 = .ok (.ifCond .eq 7, 3) := by decide +kernel
theorem dL_law_634 : decode cL_law 634 = .ok (.iconst 1, 1) := by decide +kernel
theorem dL_law_635 : decode cL_law 635 = .ok (.goto 4, 3) := by decide +kernel
theorem dL_law_638 : decode cL_law 638 = .ok (.iconst 0, 1) := by decide +kernel
theorem dL_law_639 : decode cL_law 639 = .ok (.invokevirtual 60, 3) := by decide +kernel
theorem dL_law_642 : decode cL_law 642 = .ok (.aload_n 2, 1) := by decide +kernel
theorem dL_law_643 : decode cL_law 643 = .ok (.aload_n 0, 1) := by decide +kernel
theorem dL_law_644 : decode cL_law 644 = .ok (.iload_n 3, 1) := by decide +kernel
theorem dL_law_645 : decode cL_law 645 = .ok (.iconst 1, 1) := by decide +kernel
theorem dL_law_646 : decode cL_law 646 = .ok (.iadd, 1) := by decide +kernel
theorem dL_law_647 : decode cL_law 647 = .ok (.iaload, 1) := by decide +kernel
theorem dL_law_648 : decode cL_law 648 = .ok (.aload_n 0, 1) := by decide +kernel
theorem dL_law_649 : decode cL_law 649 = .ok (.iload_n 3, 1) := by decide +kernel
theorem dL_law_650 : decode cL_law 650 = .ok (.iconst 2, 1) := by decide +kernel
theorem dL_law_651 : decode cL_law 651 = .ok (.iadd, 1) := by decide +kernel
theorem dL_law_652 : decode cL_law 652 = .ok (.iaload, 1) := by decide +kernel
theorem dL_law_653 : decode cL_law 653 = .ok (.aload_n 0, 1) := by decide +kernel
theorem dL_law_654 : decode cL_law 654 = .ok (.iload_n 3, 1) := by decide +kernel
theorem dL_law_655 : decode cL_law 655 = .ok (.iconst 3, 1) := by decide +kernel
theorem dL_law_656 : decode cL_law 656 = .ok (.iadd, 1) := by decide +kernel
theorem dL_law_657 : decode cL_law 657 = .ok (.iaload, 1) := by decide +kernel
theorem dL_law_658 : decode cL_law 658 = .ok (.aload_n 0, 1) := by decide +kernel
theorem dL_law_659 : decode cL_law 659 = .ok (.iload_n 3, 1) := by decide +kernel
theorem dL_law_660 : decode cL_law 660 = .ok (.iconst 4, 1) := by decide +kernel
theorem dL_law_661 : decode cL_law 661 = .ok (.iadd, 1) := by decide +kernel
theorem dL_law_662 : decode cL_law 662 = .ok (.iaload, 1) := by decide +kernel
theorem dL_law_663 : decode cL_law 663 = .ok (.aload_n 0, 1) := by decide +kernel
theorem dL_law_664 : decode cL_law 664 = .ok (.iload_n 3, 1) := by decide +kernel
theorem dL_law_665 : decode cL_law 665 = .ok (.iconst 5, 1) := by decide +kernel
theorem dL_law_666 : decode cL_law 666 = .ok (.iadd, 1) := by decide +kernel
theorem dL_law_667 : decode cL_law 667 = .ok (.iaload, 1) := by decide +kernel
theorem dL_law_668 : decode cL_law 668 = .ok (.aload_n 0, 1) := by decide +kernel
theorem dL_law_669 : decode cL_law 669 = .ok (.iload_n 3, 1) := by decide +kernel
theorem dL_law_670 : decode cL_law 670 = .ok (.bipush 6, 2) := by decide +kernel
theorem dL_law_672 : decode cL_law 672 = .ok (.iadd, 1) := by decide +kernel
theorem dL_law_673 : decode cL_law 673 = .ok (.iaload, 1) := by decide +kernel
theorem dL_law_674 : decode cL_law 674 = .ok (.ifCond .eq 7, 3) := by decide +kernel
theorem dL_law_677 : decode cL_law 677 = .ok (.iconst 1, 1) := by decide +kernel
theorem dL_law_678 : decode cL_law 678 = .ok (.goto 4, 3) := by decide +kernel
theorem dL_law_681 : decode cL_law 681 = .ok (.iconst 0, 1) := by decide +kernel
theorem dL_law_682 : decode cL_law 682 = .ok (.invokevirtual 64, 3) := by decide +kernel
theorem dL_law_685 : decode cL_law 685 = .ok (.if_icmp .eq 90, 3) := by decide +kernel
theorem dL_law_688 : decode cL_law 688 = .ok (.iconst 0, 1) := by decide +kernel
theorem dL_law_689 : decode cL_law 689 = .ok (.ireturn, 1) := by decide +kernel
theorem dL_law_690 : decode cL_law 690 = .ok (.aload_n 1, 1) := by decide +kernel
theorem dL_law_691 : decode cL_law 691 = .ok (.invokevirtual 65, 3) := by decide +kernel
theorem dL_law_694 : decode cL_law 694 = .ok (.aload_n 2, 1) := by decide +kernel
theorem dL_law_695 : decode cL_law 695 = .ok (.invokevirtual 69, 3) := by decide +kernel
theorem dL_law_698 : decode cL_law 698 = .ok (.lcmp, 1) := by decide +kernel
theorem dL_law_699 : decode cL_law 699 = .ok (.ifCond .eq 76, 3) := by decide +kernel
theorem dL_law_702 : decode cL_law 702 = .ok (.iconst 0, 1) := by decide +kernel
theorem dL_law_703 : decode cL_law 703 = .ok (.ireturn, 1) := by decide +kernel
theorem dL_law_704 : decode cL_law 704 = .ok (.aload_n 1, 1) := by decide +kernel
theorem dL_law_705 : decode cL_law 705 = .ok (.invokevirtual 70, 3) := by decide +kernel
theorem dL_law_708 : decode cL_law 708 = .ok (.aload_n 2, 1) := by decide +kernel
theorem dL_law_709 : decode cL_law 709 = .ok (.invokevirtual 73, 3) := by decide +kernel
theorem dL_law_712 : decode cL_law 712 = .ok (.if_icmp .eq 63, 3) := by decide +kernel
theorem dL_law_715 : decode cL_law 715 = .ok (.iconst 0, 1) := by decide +kernel
theorem dL_law_716 : decode cL_law 716 = .ok (.ireturn, 1) := by decide +kernel
theorem dL_law_717 : decode cL_law 717 = .ok (.aload_n 1, 1) := by decide +kernel
theorem dL_law_718 : decode cL_law 718 = .ok (.aload_n 0, 1) := by decide +kernel
theorem dL_law_719 : decode cL_law 719 = .ok (.iload_n 3, 1) := by decide +kernel
theorem dL_law_720 : decode cL_law 720 = .ok (.iconst 1, 1) := by decide +kernel
theorem dL_law_721 : decode cL_law 721 = .ok (.iadd, 1) := by decide +kernel
theorem dL_law_722 : decode cL_law 722 = .ok (.iaload, 1) := by decide +kernel
theorem dL_law_723 : decode cL_law 723 = .ok (.aload_n 0, 1) := by decide +kernel
theorem dL_law_724 : decode cL_law 724 = .ok (.iload_n 3, 1) := by decide +kernel
theorem dL_law_725 : decode cL_law 725 = .ok (.iconst 2, 1) := by decide +kernel
theorem dL_law_726 : decode cL_law 726 = .ok (.iadd, 1) := by decide +kernel
theorem dL_law_727 : decode cL_law 727 = .ok (.iaload, 1) := by decide +kernel
theorem dL_law_728 : decode cL_law 728 = .ok (.invokevirtual 74, 3) := by decide +kernel
theorem dL_law_731 : decode cL_law 731 = .ok (.aload_n 2, 1) := by decide +kernel
theorem dL_law_732 : decode cL_law 732 = .ok (.aload_n 0, 1) := by decide +kernel
theorem dL_law_733 : decode cL_law 733 = .ok (.iload_n 3, 1) := by decide +kernel
theorem dL_law_734 : decode cL_law 734 = .ok (.iconst 1, 1) := by decide +kernel
theorem dL_law_735 : decode cL_law 735 = .ok (.iadd, 1) := by decide +kernel
theorem dL_law_736 : decode cL_law 736 = .ok (.iaload, 1) := by decide +kernel
theorem dL_law_737 : decode cL_law 737 = .ok (.aload_n 0, 1) := by decide +kernel
theorem dL_law_738 : decode cL_law 738 = .ok (.iload_n 3, 1) := by decide +kernel
theorem dL_law_739 : decode cL_law 739 = .ok (.iconst 2, 1) := by decide +kernel
theorem dL_law_740 : decode cL_law 740 = .ok (.iadd, 1) := by decide +kernel
theorem dL_law_741 : decode cL_law 741 = .ok (.iaload, 1) := by decide +kernel
theorem dL_law_742 : decode cL_law 742 = .ok (.invokevirtual 77, 3) := by decide +kernel
theorem dL_law_745 : decode cL_law 745 = .ok (.lcmp, 1) := by decide +kernel
theorem dL_law_746 : decode cL_law 746 = .ok (.ifCond .eq 29, 3) := by decide +kernel
theorem dL_law_749 : decode cL_law 749 = .ok (.iconst 0, 1) := by decide +kernel
theorem dL_law_750 : decode cL_law 750 = .ok (.ireturn, 1) := by decide +kernel
theorem dL_law_751 : decode cL_law 751 = .ok (.aload_n 1, 1) := by decide +kernel
theorem dL_law_752 : decode cL_law 752 = .ok (.aload_n 0, 1) := by decide +kernel
theorem dL_law_753 : decode cL_law 753 = .ok (.iload_n 3, 1) := by decide +kernel
theorem dL_law_754 : decode cL_law 754 = .ok (.iconst 1, 1) := by decide +kernel
theorem dL_law_755 : decode cL_law 755 = .ok (.iadd, 1) := by decide +kernel
theorem dL_law_756 : decode cL_law 756 = .ok (.iaload, 1) := by decide +kernel
theorem dL_law_757 : decode cL_law 757 = .ok (.invokevirtual 78, 3) := by decide +kernel
theorem dL_law_760 : decode cL_law 760 = .ok (.aload_n 2, 1) := by decide +kernel
theorem dL_law_761 : decode cL_law 761 = .ok (.aload_n 0, 1) := by decide +kernel
theorem dL_law_762 : decode cL_law 762 = .ok (.iload_n 3, 1) := by decide +kernel
theorem dL_law_763 : decode cL_law 763 = .ok (.iconst 1, 1) := by decide +kernel
theorem dL_law_764 : decode cL_law 764 = .ok (.iadd, 1) := by decide +kernel
theorem dL_law_765 : decode cL_law 765 = .ok (.iaload, 1) := by decide +kernel
theorem dL_law_766 : decode cL_law 766 = .ok (.invokevirtual 82, 3) := by decide +kernel
theorem dL_law_769 : decode cL_law 769 = .ok (.lcmp, 1) := by decide +kernel
theorem dL_law_770 : decode cL_law 770 = .ok (.ifCond .eq 5, 3) := by decide +kernel
theorem dL_law_773 : decode cL_law 773 = .ok (.iconst 0, 1) := by decide +kernel
theorem dL_law_774 : decode cL_law 774 = .ok (.ireturn, 1) := by decide +kernel
theorem dL_law_775 : decode cL_law 775 = .ok (.iinc 3 9, 3) := by decide +kernel
theorem dL_law_778 : decode cL_law 778 = .ok (.goto (-760), 3) := by decide +kernel
theorem dL_law_781 : decode cL_law 781 = .ok (.iconst 1, 1) := by decide +kernel
theorem dL_law_782 : decode cL_law 782 = .ok (.ireturn, 1) := by decide +kernel
end
section
/-! THE CLAIM OUT OF ONE WALK OF THE LAW'S BODY. Your part is whole_start (and what it stands on); all else here is the same for every law, but numbers. -/
def R_law : String := "SongOfficeLaw"
def lw_P (b : Addr) (xs : List Int32) (args : Array Value) (s : State) : Prop := args = #[.ref b] ∧ s.IntsAt b xs ∧ xs.length ≤ 9 ∧ (Jvm.Cond.and given_1 narrow_1).before args s = true
def lw_Q (_ : Array Value) (s : State) (o : Outcome) (t : State) : Prop := o = .returned (some (.int 1)) ∧ Framed s o t [] 600000 7302250
def lw_Z (below : List Frame) (a : Array Value) (s : State) : State → Prop := fun t => ∃ o, t.status = .running ∧ Ended t below o ∧ lw_Q a s o t
/-- the law's own end, with 1 on the stack, nothing written that was there before, its room as the claim has it -/
theorem lw_ret {p : Program} {l : Launch} {e : Env} {s : State} {m : MethodId} {below : List Frame} {meth : Method} {c : Code} {b : Nat} (hx : p.tables.exec = Jvm.exec) (hb : c.code = code) (hr : meth.sig.returnType = ret) (hlocks : meth.locks = false) {pc : Nat} {H : Heap} {ls : Array Slot} (hdg : decode code pc = .ok (.ireturn, 1)) : W p l e room_1 s m #[Value.ref b] below meth c H [] 600000 7302250 (lw_Z below #[Value.ref b] s) (F0 m pc ls [.int 1]) := by
  intro T hT X
  obtain ⟨fs, hret, hrun, hended, hW, hframe⟩ := X.leave (v := some (.int 1)) (hlocks := hlocks) (fun h => by rw [hr] at h; cases h)
  have hmeth' : T.vm.method? m = some meth := X.method'
  refine ⟨T.setFrames fs, ?_, .returned (some (.int 1)), hrun, hended, rfl, ⟨_, rfl⟩, hW, hframe⟩
  jvm_step X.here [X.here.top, hx, hb, hdg, hmeth', hr, ret, narrow_b1]
  (try refine ⟨rfl, ?_⟩); (try refine ⟨rfl, ?_⟩)
  first | (intro acts; rw [hret _ acts rfl rfl rfl]) | rw [hret _ _ rfl rfl rfl]
  exact Steps.refl _
/-- what holds at the law's entry: the machine, the code, the tables' words (any of lw_tbl by 'hts w (by decide +kernel)'), the script of L ints xs at the cell b, what the Statement gives of the start (any of its parts by flat_of_before) -/
def lw_At (p : Program) (s : State) (m : MethodId) (meth : Method) (c : Code) (b L : Nat) (xs : Nat → Int32) : Prop :=
  p.tables.exec = Jvm.exec ∧ c.code = code ∧ meth.sig.returnType = ret ∧ c.maxLocals = 4 ∧ s.vm.findClass R_law = some m.cls ∧ (∀ w ∈ lw_tbl, w.before #[Value.ref b] s = true) ∧ va_X b L xs s s.heap ∧ b < s.heap.size ∧ meth.locks = false ∧ (Jvm.Cond.and given_1 narrow_1).before #[Value.ref b] s = true
-- ===== YOUR PART BEGINS =====
/-- YOUR PART: from the entry, for every script of at most 9 ints, the law comes to its end with true -/
theorem whole_start {p : Program} {e : Env} {s : State} {m : MethodId} {below : List Frame} {meth : Method} {c : Code} (l : Launch) {b L : Nat} {xs : Nat → Int32} (hL : L ≤ 9) (C0 : lw_At p s m meth c b L xs) : W p l e room_1 s m #[Value.ref b] below meth c s.heap [] 0 0 (lw_Z below #[Value.ref b] s) (entryFrame m ([Value.ref b] : List Value).toArray 4) := by
  sorry
-- ===== YOUR PART ENDS =====
set_option maxHeartbeats 4000000 in
theorem lw_walk (l : Launch) (b : Addr) (xs : List Int32) : MetFree l x (headSpec (Jvm.Cond.code x code maxLocals ret :: tables_1) room_1) (lw_P b xs) (fun _ _ _ _ _ => True) lw_Q := by
  refine MetFree.of_bodyS (code := code) (maxLocals := maxLocals) (ret := ret) (by decide) ?_ ?_
  · intro args s m h hn
    obtain ⟨meth, c, h1, h2, h3, h4, h5, h6, -, -⟩ := Cond.code_spec hn (atoms_spec (ws := Jvm.Cond.code x code maxLocals ret :: tables_1) h _ List.mem_cons_self)
    exact ⟨meth, c, h1, h2, h3, h4, h5, h6⟩
  · intro p e s m args below meth c s₁ B hml0 hP _
    obtain ⟨rfl, hx, hbd, hgv⟩ := hP
    obtain ⟨scr, harrAt, hlist, hof, hsmall⟩ := hx
    obtain ⟨hcb, hkn, -, -⟩ := State.arrayAt?_spec harrAt
    have hown : s.vm.findClass R_law = some m.cls := findClass_of_methodNamed B.named
    have hts0 : ∀ c ∈ (Jvm.Cond.code x code maxLocals ret :: tables_1), c.before #[Value.ref b] s = true := atoms_spec (ws := Jvm.Cond.code x code maxLocals ret :: tables_1) B.pre
    have hts : ∀ w ∈ lw_tbl, w.before #[Value.ref b] s = true := k2_hts_sels lw_privs (fun w hw => hts0 w (List.mem_cons_of_mem _ hw)) lw_privs_ok
    have hml : c.maxLocals = 4 := B.maxLocals_eq (hts0 _ List.mem_cons_self)
    have X₀ : Stand p l e room_1 s m #[Value.ref b] below meth c s₁ [] 0 0 := Stand.of_body B
    have hh0 : s₁.heap = s.heap := by rw [B.state]; rfl
    have hsz : scr.slots.size = xs.length := by rw [← Array.length_toList, hlist, List.length_map]
    have hval : ∀ j : Nat, j < xs.length → scr.slots[j]? = some (.int (xs.getD j 0)) := fun j hj => by
      rw [← Array.getElem?_toList, hlist]
      simp [hj]
    have hbl : b < s.heap.size := (Array.getElem?_eq_some_iff.mp hcb).1
    have hX : va_X b xs.length (fun j => xs.getD j 0) s s.heap := ⟨scr, hcb, hof, hkn, hsz, hval⟩
    have K : W p l e room_1 s m #[Value.ref b] below meth c s₁.heap [] 0 0 (lw_Z below #[Value.ref b] s) (entryFrame m ([Value.ref b] : List Value).toArray 4) := by
      rw [hh0]
      exact whole_start l hbd ⟨B.exec, B.bytes, B.returns, hml, hown, hts, hX, hbl, B.notSynchronized, hgv⟩
    obtain ⟨t, a1, o, b1, b2, b3⟩ := K s₁ rfl X₀
    exact ⟨t, o, a1, b1, b2, b3⟩
theorem lw_pre_spec {args : Array Value} {s : State} (h : (Jvm.Cond.and given_1 narrow_1).before args s = true) (hr : rest_1_c.before args s = true) : ∃ (b : Addr) (xs : List Int32), lw_P b xs args s := by
  have hs := flat_of_before _ h
  have hq := flat_of_before _ hr
  have hc : (Cond.count 1).before args s = true := hs _ (by decide +kernel)
  have harr : (Cond.arrayOf (.arg 0) .int).before args s = true := hs _ (by decide +kernel)
  have hle : (Cond.le (.length (.arg 0)) (.int 9)).before args s = true := hs _ (by decide +kernel)
  have hlen : (Cond.isInt (.length (.arg 0))).before args s = true := hq _ (by decide +kernel)
  have hall : (Cond.all (.arg 0) (.isInt (.elem (.arg 0) (.index 0)))).before args s = true := hq _ (by decide +kernel)
  obtain ⟨b, xs, hb, hx⟩ := State.ints_of_pre rfl harr hlen hall
  have hsm : xs.length < 2 ^ 31 := hx.choose_spec.2.2.2
  have hev : (Term.length (.arg 0)).eval args s none [] s = some (.int xs.length.toInt32) := hx.length_eval hb
  have hv := Cond.le_ints hev (show (Term.int 9).eval args s none [] s = some (.int 9) from rfl)
  have hd : xs.length.toInt32 ≤ 9 := by
    simpa [Cond.before, Cond.holds, hv] using hle
  have hN : xs.length ≤ 9 := (Int32.ofNat_le_ofNat hsm (by decide)).mp (show Int32.ofNat xs.length ≤ Int32.ofNat 9 from hd)
  exact ⟨b, xs, Cond.one_arg hc (show args[0]? = some (.ref b) from hb), hx, hN, h⟩
theorem lw_comes (l : Launch) : Comes l x (Jvm.Cond.code x code maxLocals ret :: tables_1) room_1 (fun tb e args s => Calls_1 tb e args s ∧ rest_1 tb e args s ∧ Pre_1 tb e args s)
    (fun _ _ args s o t => lw_Q args s o t) := by
  intro p e ha hc hk s m args below hf hfit hheap happ hpre
  obtain ⟨b, xs, hP⟩ := lw_pre_spec hpre.2.2 hpre.2.1
  obtain ⟨k, o, h1, h2, h3, hQ⟩ := lw_walk l b xs p e ha hc hk s m args below hf ((Spec.applies_iff_loose hf).mp happ).1 hP trivial
  exact ⟨k, o, h1, h2, h3, hQ⟩
theorem lw_frame {s t : State} {o : Outcome} {args : Array Value} (h : Framed s o t [] 600000 7302250) :
    Framed s o t (fieldLocs frame_1_writes args s ++ arrayLocs frame_1_arrays args s ++ staticLocs frame_1_statics s) 600000 7302250 := h
theorem lw_limb (L : Cond) (hL : ∀ (args : Array Value) (s t : State), L.after args s (.returned (some (.int 1))) t = true) :
    ArmFor flags0 classFile x code maxLocals ret World_1 tables_1 room_1 Calls_1 rest_1 Pre_1
      (fun tb e a s o t => postC L tb e a s o t ∧ Framed s o t (fieldLocs frame_1_writes a s ++ arrayLocs frame_1_arrays a s ++ staticLocs frame_1_statics s) 600000 7302250) := by
  intro l _ _ _ p e ha hc hk s m args below hf hfit hheap happ hpre
  obtain ⟨k, o, h1, h2, h3, rfl, hF⟩ := lw_comes l p e ha hc hk s m args below hf hfit hheap happ hpre
  exact ⟨k, _, h1, h2, h3, hL args s _, lw_frame hF⟩
theorem i_vc : Claimed_1_1 ∧ Claimed_1_2 := ⟨lw_limb limb_1_1 (fun args s t => by simp [limb_1_1, Cond.after, Cond.holds, Cond.value]), lw_limb limb_1_2 (fun args s t => Cond.after_iff.mpr (by
  first | (rw [show limb_1_2 = Cond.eq .result (.int 1) from rfl, Cond.eq_ints (x := 1) (y := 1) rfl rfl]; simp; done) | (simp [limb_1_2, Cond.value, Term.eval]; done)))⟩
end
