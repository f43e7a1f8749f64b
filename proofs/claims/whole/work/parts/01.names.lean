-- ===== PART A: goes FIRST, ahead of the names: the tables' words, and 'selects' of the private methods out of them =====
/-- a private method of a class that the tables say can be made, by its rows of tables_1 -/
def lw_okq (q : MethodName × Nat) : Prop := (q.1.cls ≠ "java/lang/invoke/MethodHandle" ∧ q.1.cls ≠ "java/lang/invoke/VarHandle") ∧ Cond.instantiable q.1.cls q.2 ∈ tables_1 ∧ Cond.privateMethod q.1 ∈ tables_1 ∧ Cond.instanceMethod q.1 ∈ tables_1
theorem lw_p0 : lw_okq (⟨"LimbWorks", "isThere", "(I)Z"⟩, 14) := ⟨⟨by decide +kernel, by decide +kernel⟩, List.mem_of_getElem? (i := 10) (by decide +kernel), List.mem_of_getElem? (i := 209) (by decide +kernel), List.mem_of_getElem? (i := 210) (by decide +kernel)⟩
theorem lw_p1 : lw_okq (⟨"LimbWorks", "standAll", "()V"⟩, 14) := ⟨⟨by decide +kernel, by decide +kernel⟩, List.mem_of_getElem? (i := 10) (by decide +kernel), List.mem_of_getElem? (i := 270) (by decide +kernel), List.mem_of_getElem? (i := 271) (by decide +kernel)⟩
theorem lw_p2 : lw_okq (⟨"LimbWorks$Frame", "turnPair", "(LLimbWorks$Vector;LLimbWorks$Vector;J)V"⟩, 4) := ⟨⟨by decide +kernel, by decide +kernel⟩, List.mem_of_getElem? (i := 65) (by decide +kernel), List.mem_of_getElem? (i := 290) (by decide +kernel), List.mem_of_getElem? (i := 291) (by decide +kernel)⟩
theorem lw_p3 : lw_okq (⟨"LimbWorks", "findNeeded", "(LLimbWorks$Vector;[J[J)V"⟩, 14) := ⟨⟨by decide +kernel, by decide +kernel⟩, List.mem_of_getElem? (i := 10) (by decide +kernel), List.mem_of_getElem? (i := 339) (by decide +kernel), List.mem_of_getElem? (i := 340) (by decide +kernel)⟩
theorem lw_p4 : lw_okq (⟨"LimbWorks$Body", "applyInertia", "(LLimbWorks$Vector;LLimbWorks$Vector;)V"⟩, 18) := ⟨⟨by decide +kernel, by decide +kernel⟩, List.mem_of_getElem? (i := 19) (by decide +kernel), List.mem_of_getElem? (i := 371) (by decide +kernel), List.mem_of_getElem? (i := 372) (by decide +kernel)⟩
theorem lw_p5 : lw_okq (⟨"LimbWorks", "fillColumn", "(I)V"⟩, 14) := ⟨⟨by decide +kernel, by decide +kernel⟩, List.mem_of_getElem? (i := 10) (by decide +kernel), List.mem_of_getElem? (i := 402) (by decide +kernel), List.mem_of_getElem? (i := 403) (by decide +kernel)⟩
theorem lw_p6 : lw_okq (⟨"LimbWorks", "fillGaps", "()V"⟩, 14) := ⟨⟨by decide +kernel, by decide +kernel⟩, List.mem_of_getElem? (i := 10) (by decide +kernel), List.mem_of_getElem? (i := 414) (by decide +kernel), List.mem_of_getElem? (i := 415) (by decide +kernel)⟩
theorem lw_p7 : lw_okq (⟨"LimbWorks", "clearUpperEntries", "()Z"⟩, 14) := ⟨⟨by decide +kernel, by decide +kernel⟩, List.mem_of_getElem? (i := 10) (by decide +kernel), List.mem_of_getElem? (i := 419) (by decide +kernel), List.mem_of_getElem? (i := 420) (by decide +kernel)⟩
theorem lw_p8 : lw_okq (⟨"LimbWorks", "takeFromRow", "(IIJ)V"⟩, 14) := ⟨⟨by decide +kernel, by decide +kernel⟩, List.mem_of_getElem? (i := 10) (by decide +kernel), List.mem_of_getElem? (i := 425) (by decide +kernel), List.mem_of_getElem? (i := 426) (by decide +kernel)⟩
theorem lw_p9 : lw_okq (⟨"LimbWorks", "solveAccelerations", "()V"⟩, 14) := ⟨⟨by decide +kernel, by decide +kernel⟩, List.mem_of_getElem? (i := 10) (by decide +kernel), List.mem_of_getElem? (i := 429) (by decide +kernel), List.mem_of_getElem? (i := 430) (by decide +kernel)⟩
theorem lw_p10 : lw_okq (⟨"LimbWorksModel", "three", "(IIIII)Z"⟩, 27) := ⟨⟨by decide +kernel, by decide +kernel⟩, List.mem_of_getElem? (i := 462) (by decide +kernel), List.mem_of_getElem? (i := 560) (by decide +kernel), List.mem_of_getElem? (i := 561) (by decide +kernel)⟩
theorem lw_p11 : lw_okq (⟨"LimbWorksModel", "isThere", "(I)Z"⟩, 27) := ⟨⟨by decide +kernel, by decide +kernel⟩, List.mem_of_getElem? (i := 462) (by decide +kernel), List.mem_of_getElem? (i := 564) (by decide +kernel), List.mem_of_getElem? (i := 565) (by decide +kernel)⟩
theorem lw_p12 : lw_okq (⟨"LimbWorksModel", "one", "(III)Z"⟩, 27) := ⟨⟨by decide +kernel, by decide +kernel⟩, List.mem_of_getElem? (i := 462) (by decide +kernel), List.mem_of_getElem? (i := 576) (by decide +kernel), List.mem_of_getElem? (i := 577) (by decide +kernel)⟩
theorem lw_p13 : lw_okq (⟨"LimbWorksModel", "asItIs", "(Z)V"⟩, 27) := ⟨⟨by decide +kernel, by decide +kernel⟩, List.mem_of_getElem? (i := 462) (by decide +kernel), List.mem_of_getElem? (i := 612) (by decide +kernel), List.mem_of_getElem? (i := 613) (by decide +kernel)⟩
theorem lw_p14 : lw_okq (⟨"LimbWorksModel", "move", "(Z)V"⟩, 27) := ⟨⟨by decide +kernel, by decide +kernel⟩, List.mem_of_getElem? (i := 462) (by decide +kernel), List.mem_of_getElem? (i := 616) (by decide +kernel), List.mem_of_getElem? (i := 617) (by decide +kernel)⟩
theorem lw_p15 : lw_okq (⟨"LimbWorksModel", "carry", "(I)V"⟩, 27) := ⟨⟨by decide +kernel, by decide +kernel⟩, List.mem_of_getElem? (i := 462) (by decide +kernel), List.mem_of_getElem? (i := 620) (by decide +kernel), List.mem_of_getElem? (i := 621) (by decide +kernel)⟩
def lw_privs_1 : List (MethodName × Nat) := [(⟨"LimbWorks", "isThere", "(I)Z"⟩, 14), (⟨"LimbWorks", "standAll", "()V"⟩, 14), (⟨"LimbWorks$Frame", "turnPair", "(LLimbWorks$Vector;LLimbWorks$Vector;J)V"⟩, 4), (⟨"LimbWorks", "findNeeded", "(LLimbWorks$Vector;[J[J)V"⟩, 14), (⟨"LimbWorks$Body", "applyInertia", "(LLimbWorks$Vector;LLimbWorks$Vector;)V"⟩, 18), (⟨"LimbWorks", "fillColumn", "(I)V"⟩, 14), (⟨"LimbWorks", "fillGaps", "()V"⟩, 14), (⟨"LimbWorks", "clearUpperEntries", "()Z"⟩, 14), (⟨"LimbWorks", "takeFromRow", "(IIJ)V"⟩, 14), (⟨"LimbWorks", "solveAccelerations", "()V"⟩, 14), (⟨"LimbWorksModel", "three", "(IIIII)Z"⟩, 27), (⟨"LimbWorksModel", "isThere", "(I)Z"⟩, 27), (⟨"LimbWorksModel", "one", "(III)Z"⟩, 27), (⟨"LimbWorksModel", "asItIs", "(Z)V"⟩, 27), (⟨"LimbWorksModel", "move", "(Z)V"⟩, 27), (⟨"LimbWorksModel", "carry", "(I)V"⟩, 27)]
theorem lw_r1 : ∀ q ∈ lw_privs_1, lw_okq q := List.forall_mem_cons.mpr ⟨lw_p0, List.forall_mem_cons.mpr ⟨lw_p1, List.forall_mem_cons.mpr ⟨lw_p2, List.forall_mem_cons.mpr ⟨lw_p3, List.forall_mem_cons.mpr ⟨lw_p4, List.forall_mem_cons.mpr ⟨lw_p5, List.forall_mem_cons.mpr ⟨lw_p6, List.forall_mem_cons.mpr ⟨lw_p7, List.forall_mem_cons.mpr ⟨lw_p8, List.forall_mem_cons.mpr ⟨lw_p9, List.forall_mem_cons.mpr ⟨lw_p10, List.forall_mem_cons.mpr ⟨lw_p11, List.forall_mem_cons.mpr ⟨lw_p12, List.forall_mem_cons.mpr ⟨lw_p13, List.forall_mem_cons.mpr ⟨lw_p14, List.forall_mem_cons.mpr ⟨lw_p15, fun _ h => absurd h List.not_mem_nil⟩⟩⟩⟩⟩⟩⟩⟩⟩⟩⟩⟩⟩⟩⟩⟩
theorem lw_p16 : lw_okq (⟨"LimbWorksModel", "swing", "([JII[J)V"⟩, 27) := ⟨⟨by decide +kernel, by decide +kernel⟩, List.mem_of_getElem? (i := 462) (by decide +kernel), List.mem_of_getElem? (i := 653) (by decide +kernel), List.mem_of_getElem? (i := 654) (by decide +kernel)⟩
theorem lw_p17 : lw_okq (⟨"LimbWorksModel", "loads", "(I)V"⟩, 27) := ⟨⟨by decide +kernel, by decide +kernel⟩, List.mem_of_getElem? (i := 462) (by decide +kernel), List.mem_of_getElem? (i := 657) (by decide +kernel), List.mem_of_getElem? (i := 658) (by decide +kernel)⟩
theorem lw_p18 : lw_okq (⟨"LimbWorksModel", "heavy", "([JI[JI)V"⟩, 27) := ⟨⟨by decide +kernel, by decide +kernel⟩, List.mem_of_getElem? (i := 462) (by decide +kernel), List.mem_of_getElem? (i := 661) (by decide +kernel), List.mem_of_getElem? (i := 662) (by decide +kernel)⟩
theorem lw_p19 : lw_okq (⟨"LimbWorksModel", "torqueOf", "(I)J"⟩, 27) := ⟨⟨by decide +kernel, by decide +kernel⟩, List.mem_of_getElem? (i := 462) (by decide +kernel), List.mem_of_getElem? (i := 668) (by decide +kernel), List.mem_of_getElem? (i := 669) (by decide +kernel)⟩
theorem lw_p20 : lw_okq (⟨"LimbWorksModel", "hangs", "(II)Z"⟩, 27) := ⟨⟨by decide +kernel, by decide +kernel⟩, List.mem_of_getElem? (i := 462) (by decide +kernel), List.mem_of_getElem? (i := 672) (by decide +kernel), List.mem_of_getElem? (i := 673) (by decide +kernel)⟩
theorem lw_p21 : lw_okq (⟨"LimbWorksModel", "alone", "(I)V"⟩, 27) := ⟨⟨by decide +kernel, by decide +kernel⟩, List.mem_of_getElem? (i := 462) (by decide +kernel), List.mem_of_getElem? (i := 680) (by decide +kernel), List.mem_of_getElem? (i := 681) (by decide +kernel)⟩
theorem lw_p22 : lw_okq (⟨"LimbWorksModel", "system", "()V"⟩, 27) := ⟨⟨by decide +kernel, by decide +kernel⟩, List.mem_of_getElem? (i := 462) (by decide +kernel), List.mem_of_getElem? (i := 692) (by decide +kernel), List.mem_of_getElem? (i := 693) (by decide +kernel)⟩
theorem lw_p23 : lw_okq (⟨"LimbWorksModel", "isCleared", "(I)Z"⟩, 27) := ⟨⟨by decide +kernel, by decide +kernel⟩, List.mem_of_getElem? (i := 462) (by decide +kernel), List.mem_of_getElem? (i := 696) (by decide +kernel), List.mem_of_getElem? (i := 697) (by decide +kernel)⟩
def lw_privs_2 : List (MethodName × Nat) := [(⟨"LimbWorksModel", "swing", "([JII[J)V"⟩, 27), (⟨"LimbWorksModel", "loads", "(I)V"⟩, 27), (⟨"LimbWorksModel", "heavy", "([JI[JI)V"⟩, 27), (⟨"LimbWorksModel", "torqueOf", "(I)J"⟩, 27), (⟨"LimbWorksModel", "hangs", "(II)Z"⟩, 27), (⟨"LimbWorksModel", "alone", "(I)V"⟩, 27), (⟨"LimbWorksModel", "system", "()V"⟩, 27), (⟨"LimbWorksModel", "isCleared", "(I)Z"⟩, 27)]
theorem lw_r2 : ∀ q ∈ lw_privs_2, lw_okq q := List.forall_mem_cons.mpr ⟨lw_p16, List.forall_mem_cons.mpr ⟨lw_p17, List.forall_mem_cons.mpr ⟨lw_p18, List.forall_mem_cons.mpr ⟨lw_p19, List.forall_mem_cons.mpr ⟨lw_p20, List.forall_mem_cons.mpr ⟨lw_p21, List.forall_mem_cons.mpr ⟨lw_p22, List.forall_mem_cons.mpr ⟨lw_p23, fun _ h => absurd h List.not_mem_nil⟩⟩⟩⟩⟩⟩⟩⟩
def lw_privs : List (MethodName × Nat) := lw_privs_1 ++ (lw_privs_2)
def lw_tbl : List Cond := k2_sels lw_privs ++ tables_1
theorem lw_privs_ok : ∀ q ∈ lw_privs, lw_okq q := by
  show ∀ q ∈ lw_privs_1 ++ (lw_privs_2), lw_okq q
  exact List.forall_mem_append.mpr ⟨lw_r1, lw_r2⟩

/-! ===== BEGIN words of one list among another's, by their places ===== -/
theorem goodIn_r {big : List Cond} (ws : List Cond) (ps : List Nat) (hp : ws = ps.filterMap (fun i => big[i]?)) (h : ws.all goodWord = true) : GoodIn big ws := by
  intro w hw
  have h1 := List.all_eq_true.mp h w hw
  rw [hp] at hw
  obtain ⟨i, -, hi⟩ := List.mem_filterMap.mp hw
  have hm : w ∈ big := by first | exact List.mem_of_getElem? hi | exact List.getElem?_mem hi
  exact ⟨hm, good_of_word h1⟩
theorem goodIn_app {big a b : List Cond} (ha : GoodIn big a) (hb : GoodIn big b) : GoodIn big (a ++ b) := fun w h => (List.mem_append.mp h).elim (ha w) (hb w)
theorem goodIn_ca {big a b : List Cond} {c : Cond} (ha : GoodIn big (c :: a)) (hb : GoodIn big b) : GoodIn big (c :: (a ++ b)) := fun w h => (List.mem_cons.mp h).elim (fun e => ha w (List.mem_cons.mpr (Or.inl e))) (fun h => (List.mem_append.mp h).elim (fun h => ha w (List.mem_cons.mpr (Or.inr h))) (hb w))
theorem goodIn_sub {big ws : List Cond} (hm : ∀ w ∈ ws, w ∈ big) (h : ws.all goodWord = true) : GoodIn big ws := fun w hw => ⟨hm w hw, good_of_word (List.all_eq_true.mp h w hw)⟩
/-! ===== END ===== -/
def RX0 : String := "LimbWorks$Body"
def TX0 : u_T := fun k => match k with
  | 0 => ("LimbWorks$Body", "parent", "I", false)
  | 1 => ("LimbWorks$Body", "slides", "Z", false)
  | 2 => ("LimbWorks$Body", "place", "LLimbWorks$Vector;", true)
  | 3 => ("LimbWorks$Body", "tilt", "J", false)
  | 4 => ("LimbWorks$Body", "mass", "J", false)
  | 5 => ("LimbWorks$Body", "centre", "LLimbWorks$Vector;", true)
  | 6 => ("LimbWorks$Body", "inertia", "LLimbWorks$Inertia;", true)
  | 7 => ("LimbWorks$Body", "frame", "LLimbWorks$Frame;", true)
  | 8 => ("LimbWorks$Body", "origin", "LLimbWorks$Vector;", true)
  | 9 => ("LimbWorks$Body", "offset", "LLimbWorks$Vector;", true)
  | 10 => ("LimbWorks$Body", "lever", "LLimbWorks$Vector;", true)
  | 11 => ("LimbWorks$Body", "middle", "LLimbWorks$Vector;", true)
  | 12 => ("LimbWorks$Body", "turning", "LLimbWorks$Vector;", true)
  | 13 => ("LimbWorks$Body", "turningChange", "LLimbWorks$Vector;", true)
  | 14 => ("LimbWorks$Body", "originAcceleration", "LLimbWorks$Vector;", true)
  | 15 => ("LimbWorks$Body", "force", "LLimbWorks$Vector;", true)
  | 16 => ("LimbWorks$Body", "moment", "LLimbWorks$Vector;", true)
  | _ => ("LimbWorks$Body", "spare", "LLimbWorks$Vector;", true)
def tyX0 : Nat → FieldType := fun k => match k with
  | 0 => .int
  | 1 => .boolean
  | 2 => .object "LimbWorks$Vector"
  | 3 => .long
  | 4 => .long
  | 5 => .object "LimbWorks$Vector"
  | 6 => .object "LimbWorks$Inertia"
  | 7 => .object "LimbWorks$Frame"
  | 8 => .object "LimbWorks$Vector"
  | 9 => .object "LimbWorks$Vector"
  | 10 => .object "LimbWorks$Vector"
  | 11 => .object "LimbWorks$Vector"
  | 12 => .object "LimbWorks$Vector"
  | 13 => .object "LimbWorks$Vector"
  | 14 => .object "LimbWorks$Vector"
  | 15 => .object "LimbWorks$Vector"
  | 16 => .object "LimbWorks$Vector"
  | _ => .object "LimbWorks$Vector"
abbrev wsX00 : List Cond := u_ws RX0 TX0 18
theorem nmX0 : ∀ a, a < 18 → ∀ b, b < 18 → a ≠ b → (TX0 a).2.1 ≠ (TX0 b).2.1 := by decide +kernel
theorem tyX0_ok : ∀ k, k < 18 → parseFieldDescriptor (TX0 k).2.2.1 = some (tyX0 k) := by decide +kernel
abbrev cX0_init : ByteArray := prog_2_method_1_code
def yX0_init : MethodName := ⟨RX0, "<init>", "()V"⟩
abbrev cX0_hangOn : ByteArray := prog_2_method_2_code
def yX0_hangOn : MethodName := ⟨RX0, "hangOn", "(IZ)V"⟩
abbrev cX0_axisVector : ByteArray := prog_2_method_3_code
def yX0_axisVector : MethodName := ⟨RX0, "axisVector", "()LLimbWorks$Vector;"⟩
abbrev cX0_answerVector : ByteArray := prog_2_method_4_code
def yX0_answerVector : MethodName := ⟨RX0, "answerVector", "(I)LLimbWorks$Vector;"⟩
abbrev cX0_stand : ByteArray := prog_2_method_5_code
def yX0_stand : MethodName := ⟨RX0, "stand", "(LLimbWorks$Body;J)V"⟩
abbrev cX0_standAgainst : ByteArray := prog_2_method_6_code
def yX0_standAgainst : MethodName := ⟨RX0, "standAgainst", "(LLimbWorks$Vector;)V"⟩
abbrev cX0_move : ByteArray := prog_2_method_7_code
def yX0_move : MethodName := ⟨RX0, "move", "(LLimbWorks$Body;JJ)V"⟩
abbrev cX0_accelerationAt : ByteArray := prog_2_method_8_code
def yX0_accelerationAt : MethodName := ⟨RX0, "accelerationAt", "(LLimbWorks$Vector;LLimbWorks$Vector;)V"⟩
abbrev cX0_load : ByteArray := prog_2_method_9_code
def yX0_load : MethodName := ⟨RX0, "load", "()V"⟩
abbrev cX0_applyInertia : ByteArray := prog_2_method_10_code
def yX0_applyInertia : MethodName := ⟨RX0, "applyInertia", "(LLimbWorks$Vector;LLimbWorks$Vector;)V"⟩
abbrev cX0_neededTorque : ByteArray := prog_2_method_11_code
def yX0_neededTorque : MethodName := ⟨RX0, "neededTorque", "()J"⟩
abbrev cX0_passLoad : ByteArray := prog_2_method_12_code
def yX0_passLoad : MethodName := ⟨RX0, "passLoad", "(LLimbWorks$Body;)V"⟩
def RX1 : String := "LimbWorks$Field"
def TX1 : u_T := fun k => match k with
  | _ => ("", "", "", false)
def tyX1 : Nat → FieldType := fun k => match k with
  | _ => .int
abbrev wsX10 : List Cond := u_ws RX1 TX1 0
theorem nmX1 : ∀ a, a < 0 → ∀ b, b < 0 → a ≠ b → (TX1 a).2.1 ≠ (TX1 b).2.1 := by decide +kernel
theorem tyX1_ok : ∀ k, k < 0 → parseFieldDescriptor (TX1 k).2.2.1 = some (tyX1 k) := by decide +kernel
abbrev cX1_of : ByteArray := prog_3_method_2_code
def yX1_of : MethodName := ⟨RX1, "of", "(I)J"⟩
abbrev cX1_plus : ByteArray := prog_3_method_3_code
def yX1_plus : MethodName := ⟨RX1, "plus", "(JJ)J"⟩
abbrev cX1_minus : ByteArray := prog_3_method_4_code
def yX1_minus : MethodName := ⟨RX1, "minus", "(JJ)J"⟩
abbrev cX1_times : ByteArray := prog_3_method_5_code
def yX1_times : MethodName := ⟨RX1, "times", "(JJ)J"⟩
abbrev cX1_inverse : ByteArray := prog_3_method_6_code
def yX1_inverse : MethodName := ⟨RX1, "inverse", "(J)J"⟩
def RX2 : String := "LimbWorks$Frame"
def TX2 : u_T := fun k => match k with
  | 0 => ("LimbWorks$Frame", "x", "LLimbWorks$Vector;", true)
  | 1 => ("LimbWorks$Frame", "y", "LLimbWorks$Vector;", true)
  | 2 => ("LimbWorks$Frame", "z", "LLimbWorks$Vector;", true)
  | _ => ("LimbWorks$Frame", "old", "LLimbWorks$Vector;", true)
def tyX2 : Nat → FieldType := fun k => match k with
  | 0 => .object "LimbWorks$Vector"
  | 1 => .object "LimbWorks$Vector"
  | 2 => .object "LimbWorks$Vector"
  | _ => .object "LimbWorks$Vector"
abbrev wsX20 : List Cond := u_ws RX2 TX2 4
theorem nmX2 : ∀ a, a < 4 → ∀ b, b < 4 → a ≠ b → (TX2 a).2.1 ≠ (TX2 b).2.1 := by decide +kernel
theorem tyX2_ok : ∀ k, k < 4 → parseFieldDescriptor (TX2 k).2.2.1 = some (tyX2 k) := by decide +kernel
abbrev cX2_init : ByteArray := prog_4_method_1_code
def yX2_init : MethodName := ⟨RX2, "<init>", "()V"⟩
abbrev cX2_copy : ByteArray := prog_4_method_2_code
def yX2_copy : MethodName := ⟨RX2, "copy", "(LLimbWorks$Frame;)V"⟩
abbrev cX2_turnAboutX : ByteArray := prog_4_method_3_code
def yX2_turnAboutX : MethodName := ⟨RX2, "turnAboutX", "(J)V"⟩
abbrev cX2_turnAboutZ : ByteArray := prog_4_method_4_code
def yX2_turnAboutZ : MethodName := ⟨RX2, "turnAboutZ", "(J)V"⟩
abbrev cX2_turnPair : ByteArray := prog_4_method_5_code
def yX2_turnPair : MethodName := ⟨RX2, "turnPair", "(LLimbWorks$Vector;LLimbWorks$Vector;J)V"⟩
abbrev cX2_outward : ByteArray := prog_4_method_6_code
def yX2_outward : MethodName := ⟨RX2, "outward", "(LLimbWorks$Vector;LLimbWorks$Vector;)V"⟩
abbrev cX2_inward : ByteArray := prog_4_method_7_code
def yX2_inward : MethodName := ⟨RX2, "inward", "(LLimbWorks$Vector;LLimbWorks$Vector;)V"⟩
def RX3 : String := "LimbWorks$Inertia"
def TX3 : u_T := fun k => match k with
  | 0 => ("LimbWorks$Inertia", "rowX", "LLimbWorks$Vector;", true)
  | 1 => ("LimbWorks$Inertia", "rowY", "LLimbWorks$Vector;", true)
  | _ => ("LimbWorks$Inertia", "rowZ", "LLimbWorks$Vector;", true)
def tyX3 : Nat → FieldType := fun k => match k with
  | 0 => .object "LimbWorks$Vector"
  | 1 => .object "LimbWorks$Vector"
  | _ => .object "LimbWorks$Vector"
abbrev wsX30 : List Cond := u_ws RX3 TX3 3
theorem nmX3 : ∀ a, a < 3 → ∀ b, b < 3 → a ≠ b → (TX3 a).2.1 ≠ (TX3 b).2.1 := by decide +kernel
theorem tyX3_ok : ∀ k, k < 3 → parseFieldDescriptor (TX3 k).2.2.1 = some (tyX3 k) := by decide +kernel
abbrev cX3_init : ByteArray := prog_5_method_1_code
def yX3_init : MethodName := ⟨RX3, "<init>", "()V"⟩
abbrev cX3_tellDiagonal : ByteArray := prog_5_method_2_code
def yX3_tellDiagonal : MethodName := ⟨RX3, "tellDiagonal", "(III)V"⟩
abbrev cX3_tellOthers : ByteArray := prog_5_method_3_code
def yX3_tellOthers : MethodName := ⟨RX3, "tellOthers", "(III)V"⟩
abbrev cX3_applyTo : ByteArray := prog_5_method_4_code
def yX3_applyTo : MethodName := ⟨RX3, "applyTo", "(LLimbWorks$Vector;)V"⟩
def RX4 : String := "LimbWorks$Vector"
def TX4 : u_T := fun k => match k with
  | 0 => ("LimbWorks$Vector", "x", "J", false)
  | 1 => ("LimbWorks$Vector", "y", "J", false)
  | _ => ("LimbWorks$Vector", "z", "J", false)
def tyX4 : Nat → FieldType := fun k => match k with
  | 0 => .long
  | 1 => .long
  | _ => .long
abbrev wsX40 : List Cond := u_ws RX4 TX4 3
theorem nmX4 : ∀ a, a < 3 → ∀ b, b < 3 → a ≠ b → (TX4 a).2.1 ≠ (TX4 b).2.1 := by decide +kernel
theorem tyX4_ok : ∀ k, k < 3 → parseFieldDescriptor (TX4 k).2.2.1 = some (tyX4 k) := by decide +kernel
abbrev cX4_init : ByteArray := prog_6_method_1_code
def yX4_init : MethodName := ⟨RX4, "<init>", "(JJJ)V"⟩
abbrev cX4_tell : ByteArray := prog_6_method_2_code
def yX4_tell : MethodName := ⟨RX4, "tell", "(III)V"⟩
abbrev cX4_clear : ByteArray := prog_6_method_3_code
def yX4_clear : MethodName := ⟨RX4, "clear", "()V"⟩
abbrev cX4_copy : ByteArray := prog_6_method_4_code
def yX4_copy : MethodName := ⟨RX4, "copy", "(LLimbWorks$Vector;)V"⟩
abbrev cX4_add : ByteArray := prog_6_method_5_code
def yX4_add : MethodName := ⟨RX4, "add", "(LLimbWorks$Vector;)V"⟩
abbrev cX4_subtract : ByteArray := prog_6_method_6_code
def yX4_subtract : MethodName := ⟨RX4, "subtract", "(LLimbWorks$Vector;)V"⟩
abbrev cX4_scale : ByteArray := prog_6_method_7_code
def yX4_scale : MethodName := ⟨RX4, "scale", "(J)V"⟩
abbrev cX4_addTimes : ByteArray := prog_6_method_8_code
def yX4_addTimes : MethodName := ⟨RX4, "addTimes", "(LLimbWorks$Vector;J)V"⟩
abbrev cX4_becomeCross : ByteArray := prog_6_method_9_code
def yX4_becomeCross : MethodName := ⟨RX4, "becomeCross", "(LLimbWorks$Vector;LLimbWorks$Vector;)V"⟩
abbrev cX4_dot : ByteArray := prog_6_method_10_code
def yX4_dot : MethodName := ⟨RX4, "dot", "(LLimbWorks$Vector;)J"⟩
abbrev cX4_part : ByteArray := prog_6_method_11_code
def yX4_part : MethodName := ⟨RX4, "part", "(I)J"⟩
def RX5 : String := "LimbWorks"
def TX5 : u_T := fun k => match k with
  | 0 => ("LimbWorks", "bodies", "[LLimbWorks$Body;", true)
  | 1 => ("LimbWorks", "count", "I", false)
  | 2 => ("LimbWorks", "gravity", "LLimbWorks$Vector;", true)
  | 3 => ("LimbWorks", "noGravity", "LLimbWorks$Vector;", true)
  | 4 => ("LimbWorks", "positions", "[J", true)
  | 5 => ("LimbWorks", "speeds", "[J", true)
  | 6 => ("LimbWorks", "accelerations", "[J", true)
  | 7 => ("LimbWorks", "torques", "[J", true)
  | 8 => ("LimbWorks", "rest", "[J", true)
  | 9 => ("LimbWorks", "unit", "[J", true)
  | 10 => ("LimbWorks", "needed", "[J", true)
  | 11 => ("LimbWorks", "entries", "[[J", true)
  | 12 => ("LimbWorks", "gaps", "[J", true)
  | _ => ("LimbWorks", "inversePivots", "[J", true)
def tyX5 : Nat → FieldType := fun k => match k with
  | 0 => .array (.object "LimbWorks$Body")
  | 1 => .int
  | 2 => .object "LimbWorks$Vector"
  | 3 => .object "LimbWorks$Vector"
  | 4 => .array .long
  | 5 => .array .long
  | 6 => .array .long
  | 7 => .array .long
  | 8 => .array .long
  | 9 => .array .long
  | 10 => .array .long
  | 11 => .array (.array .long)
  | 12 => .array .long
  | _ => .array .long
abbrev wsX50 : List Cond := u_ws RX5 TX5 14
theorem nmX5 : ∀ a, a < 14 → ∀ b, b < 14 → a ≠ b → (TX5 a).2.1 ≠ (TX5 b).2.1 := by decide +kernel
theorem tyX5_ok : ∀ k, k < 14 → parseFieldDescriptor (TX5 k).2.2.1 = some (tyX5 k) := by decide +kernel
abbrev cX5_init : ByteArray := prog_1_method_1_code
def yX5_init : MethodName := ⟨RX5, "<init>", "()V"⟩
abbrev cX5_body : ByteArray := prog_1_method_2_code
def yX5_body : MethodName := ⟨RX5, "body", "(IZ)I"⟩
abbrev cX5_place : ByteArray := prog_1_method_3_code
def yX5_place : MethodName := ⟨RX5, "place", "(IIII)Z"⟩
abbrev cX5_tilt : ByteArray := prog_1_method_4_code
def yX5_tilt : MethodName := ⟨RX5, "tilt", "(II)Z"⟩
abbrev cX5_mass : ByteArray := prog_1_method_5_code
def yX5_mass : MethodName := ⟨RX5, "mass", "(II)Z"⟩
abbrev cX5_centre : ByteArray := prog_1_method_6_code
def yX5_centre : MethodName := ⟨RX5, "centre", "(IIII)Z"⟩
abbrev cX5_inertia : ByteArray := prog_1_method_7_code
def yX5_inertia : MethodName := ⟨RX5, "inertia", "(IIII)Z"⟩
abbrev cX5_products : ByteArray := prog_1_method_8_code
def yX5_products : MethodName := ⟨RX5, "products", "(IIII)Z"⟩
abbrev cX5_joint : ByteArray := prog_1_method_9_code
def yX5_joint : MethodName := ⟨RX5, "joint", "(IIII)Z"⟩
abbrev cX5_torque : ByteArray := prog_1_method_10_code
def yX5_torque : MethodName := ⟨RX5, "torque", "(II)Z"⟩
abbrev cX5_gravity : ByteArray := prog_1_method_11_code
def yX5_gravity : MethodName := ⟨RX5, "gravity", "(III)V"⟩
abbrev cX5_needs : ByteArray := prog_1_method_12_code
def yX5_needs : MethodName := ⟨RX5, "needs", "(I)I"⟩
abbrev cX5_matrix : ByteArray := prog_1_method_13_code
def yX5_matrix : MethodName := ⟨RX5, "matrix", "(II)I"⟩
abbrev cX5_bias : ByteArray := prog_1_method_14_code
def yX5_bias : MethodName := ⟨RX5, "bias", "(I)I"⟩
abbrev cX5_forward : ByteArray := prog_1_method_15_code
def yX5_forward : MethodName := ⟨RX5, "forward", "()I"⟩
abbrev cX5_acceleration : ByteArray := prog_1_method_16_code
def yX5_acceleration : MethodName := ⟨RX5, "acceleration", "(I)I"⟩
abbrev cX5_energy : ByteArray := prog_1_method_17_code
def yX5_energy : MethodName := ⟨RX5, "energy", "()I"⟩
abbrev cX5_where : ByteArray := prog_1_method_18_code
def yX5_where : MethodName := ⟨RX5, "where", "(II)I"⟩
abbrev cX5_weight : ByteArray := prog_1_method_19_code
def yX5_weight : MethodName := ⟨RX5, "weight", "(I)I"⟩
abbrev cX5_step : ByteArray := prog_1_method_20_code
def yX5_step : MethodName := ⟨RX5, "step", "(I)V"⟩
abbrev cX5_isThere : ByteArray := prog_1_method_21_code
def yX5_isThere : MethodName := ⟨RX5, "isThere", "(I)Z"⟩
abbrev cX5_standAll : ByteArray := prog_1_method_22_code
def yX5_standAll : MethodName := ⟨RX5, "standAll", "()V"⟩
abbrev cX5_findNeeded : ByteArray := prog_1_method_23_code
def yX5_findNeeded : MethodName := ⟨RX5, "findNeeded", "(LLimbWorks$Vector;[J[J)V"⟩
abbrev cX5_fillColumn : ByteArray := prog_1_method_24_code
def yX5_fillColumn : MethodName := ⟨RX5, "fillColumn", "(I)V"⟩
abbrev cX5_fillGaps : ByteArray := prog_1_method_25_code
def yX5_fillGaps : MethodName := ⟨RX5, "fillGaps", "()V"⟩
abbrev cX5_clearUpperEntries : ByteArray := prog_1_method_26_code
def yX5_clearUpperEntries : MethodName := ⟨RX5, "clearUpperEntries", "()Z"⟩
abbrev cX5_takeFromRow : ByteArray := prog_1_method_27_code
def yX5_takeFromRow : MethodName := ⟨RX5, "takeFromRow", "(IIJ)V"⟩
abbrev cX5_solveAccelerations : ByteArray := prog_1_method_28_code
def yX5_solveAccelerations : MethodName := ⟨RX5, "solveAccelerations", "()V"⟩
def RX6 : String := "LimbWorksModel"
def TX6 : u_T := fun k => match k with
  | 0 => ("LimbWorksModel", "thrown", "I", false)
  | 1 => ("LimbWorksModel", "bodies", "I", false)
  | 2 => ("LimbWorksModel", "parent", "[I", true)
  | 3 => ("LimbWorksModel", "slides", "[Z", true)
  | 4 => ("LimbWorksModel", "part", "[J", true)
  | 5 => ("LimbWorksModel", "position", "[J", true)
  | 6 => ("LimbWorksModel", "speed", "[J", true)
  | 7 => ("LimbWorksModel", "push", "[J", true)
  | 8 => ("LimbWorksModel", "gravity", "[J", true)
  | 9 => ("LimbWorksModel", "v", "[J", true)
  | 10 => ("LimbWorksModel", "a", "[J", true)
  | 11 => ("LimbWorksModel", "turn", "[J", true)
  | 12 => ("LimbWorksModel", "origin", "[J", true)
  | 13 => ("LimbWorksModel", "axis", "[J", true)
  | 14 => ("LimbWorksModel", "spin", "[J", true)
  | 15 => ("LimbWorksModel", "change", "[J", true)
  | 16 => ("LimbWorksModel", "lift", "[J", true)
  | 17 => ("LimbWorksModel", "arm", "[J", true)
  | 18 => ("LimbWorksModel", "force", "[J", true)
  | 19 => ("LimbWorksModel", "moment", "[J", true)
  | 20 => ("LimbWorksModel", "x", "[J", true)
  | 21 => ("LimbWorksModel", "y", "[J", true)
  | 22 => ("LimbWorksModel", "z", "[J", true)
  | 23 => ("LimbWorksModel", "tilted", "[J", true)
  | 24 => ("LimbWorksModel", "hand", "[J", true)
  | 25 => ("LimbWorksModel", "rows", "[J", true)
  | _ => ("LimbWorksModel", "kept", "[J", true)
def tyX6 : Nat → FieldType := fun k => match k with
  | 0 => .int
  | 1 => .int
  | 2 => .array .int
  | 3 => .array .boolean
  | 4 => .array .long
  | 5 => .array .long
  | 6 => .array .long
  | 7 => .array .long
  | 8 => .array .long
  | 9 => .array .long
  | 10 => .array .long
  | 11 => .array .long
  | 12 => .array .long
  | 13 => .array .long
  | 14 => .array .long
  | 15 => .array .long
  | 16 => .array .long
  | 17 => .array .long
  | 18 => .array .long
  | 19 => .array .long
  | 20 => .array .long
  | 21 => .array .long
  | 22 => .array .long
  | 23 => .array .long
  | 24 => .array .long
  | 25 => .array .long
  | _ => .array .long
abbrev wsX60 : List Cond := u_ws RX6 TX6 27
theorem nmX6 : ∀ a, a < 27 → ∀ b, b < 27 → a ≠ b → (TX6 a).2.1 ≠ (TX6 b).2.1 := by decide +kernel
theorem tyX6_ok : ∀ k, k < 27 → parseFieldDescriptor (TX6 k).2.2.1 = some (tyX6 k) := by decide +kernel
abbrev cX6_init : ByteArray := prog_8_method_1_code
def yX6_init : MethodName := ⟨RX6, "<init>", "()V"⟩
abbrev cX6_of : ByteArray := prog_8_method_3_code
def yX6_of : MethodName := ⟨RX6, "of", "(J)J"⟩
abbrev cX6_inverse : ByteArray := prog_8_method_4_code
def yX6_inverse : MethodName := ⟨RX6, "inverse", "(J)J"⟩
abbrev cX6_cosine : ByteArray := prog_8_method_5_code
def yX6_cosine : MethodName := ⟨RX6, "cosine", "(J)J"⟩
abbrev cX6_sine : ByteArray := prog_8_method_6_code
def yX6_sine : MethodName := ⟨RX6, "sine", "(J)J"⟩
abbrev cX6_cross : ByteArray := prog_8_method_7_code
def yX6_cross : MethodName := ⟨RX6, "cross", "([JI[JI[JI)V"⟩
abbrev cX6_add : ByteArray := prog_8_method_8_code
def yX6_add : MethodName := ⟨RX6, "add", "([JI[JIJ)V"⟩
abbrev cX6_dot : ByteArray := prog_8_method_9_code
def yX6_dot : MethodName := ⟨RX6, "dot", "([JI[JI)J"⟩
abbrev cX6_turned : ByteArray := prog_8_method_10_code
def yX6_turned : MethodName := ⟨RX6, "turned", "([JI[JI[JI)V"⟩
abbrev cX6_times : ByteArray := prog_8_method_11_code
def yX6_times : MethodName := ⟨RX6, "times", "([JI[JI[JI)V"⟩
abbrev cX6_rotation : ByteArray := prog_8_method_12_code
def yX6_rotation : MethodName := ⟨RX6, "rotation", "([JIJ)V"⟩
abbrev cX6_move : ByteArray := prog_8_method_13_code
def yX6_move : MethodName := ⟨RX6, "move", "(Z)V"⟩
abbrev cX6_carry : ByteArray := prog_8_method_14_code
def yX6_carry : MethodName := ⟨RX6, "carry", "(I)V"⟩
abbrev cX6_swing : ByteArray := prog_8_method_15_code
def yX6_swing : MethodName := ⟨RX6, "swing", "([JII[J)V"⟩
abbrev cX6_inertiaAt : ByteArray := prog_8_method_16_code
def yX6_inertiaAt : MethodName := ⟨RX6, "inertiaAt", "(II)I"⟩
abbrev cX6_heavy : ByteArray := prog_8_method_17_code
def yX6_heavy : MethodName := ⟨RX6, "heavy", "([JI[JI)V"⟩
abbrev cX6_loads : ByteArray := prog_8_method_18_code
def yX6_loads : MethodName := ⟨RX6, "loads", "(I)V"⟩
abbrev cX6_hangs : ByteArray := prog_8_method_19_code
def yX6_hangs : MethodName := ⟨RX6, "hangs", "(II)Z"⟩
abbrev cX6_torqueOf : ByteArray := prog_8_method_20_code
def yX6_torqueOf : MethodName := ⟨RX6, "torqueOf", "(I)J"⟩
abbrev cX6_asItIs : ByteArray := prog_8_method_21_code
def yX6_asItIs : MethodName := ⟨RX6, "asItIs", "(Z)V"⟩
abbrev cX6_alone : ByteArray := prog_8_method_22_code
def yX6_alone : MethodName := ⟨RX6, "alone", "(I)V"⟩
abbrev cX6_isThere : ByteArray := prog_8_method_23_code
def yX6_isThere : MethodName := ⟨RX6, "isThere", "(I)Z"⟩
abbrev cX6_body : ByteArray := prog_8_method_24_code
def yX6_body : MethodName := ⟨RX6, "body", "(IZ)I"⟩
abbrev cX6_three : ByteArray := prog_8_method_25_code
def yX6_three : MethodName := ⟨RX6, "three", "(IIIII)Z"⟩
abbrev cX6_one : ByteArray := prog_8_method_26_code
def yX6_one : MethodName := ⟨RX6, "one", "(III)Z"⟩
abbrev cX6_place : ByteArray := prog_8_method_27_code
def yX6_place : MethodName := ⟨RX6, "place", "(IIII)Z"⟩
abbrev cX6_tilt : ByteArray := prog_8_method_28_code
def yX6_tilt : MethodName := ⟨RX6, "tilt", "(II)Z"⟩
abbrev cX6_mass : ByteArray := prog_8_method_29_code
def yX6_mass : MethodName := ⟨RX6, "mass", "(II)Z"⟩
abbrev cX6_centre : ByteArray := prog_8_method_30_code
def yX6_centre : MethodName := ⟨RX6, "centre", "(IIII)Z"⟩
abbrev cX6_inertia : ByteArray := prog_8_method_31_code
def yX6_inertia : MethodName := ⟨RX6, "inertia", "(IIII)Z"⟩
abbrev cX6_products : ByteArray := prog_8_method_32_code
def yX6_products : MethodName := ⟨RX6, "products", "(IIII)Z"⟩
abbrev cX6_joint : ByteArray := prog_8_method_33_code
def yX6_joint : MethodName := ⟨RX6, "joint", "(IIII)Z"⟩
abbrev cX6_torque : ByteArray := prog_8_method_34_code
def yX6_torque : MethodName := ⟨RX6, "torque", "(II)Z"⟩
abbrev cX6_gravity : ByteArray := prog_8_method_35_code
def yX6_gravity : MethodName := ⟨RX6, "gravity", "(III)V"⟩
abbrev cX6_needs : ByteArray := prog_8_method_36_code
def yX6_needs : MethodName := ⟨RX6, "needs", "(I)I"⟩
abbrev cX6_matrix : ByteArray := prog_8_method_37_code
def yX6_matrix : MethodName := ⟨RX6, "matrix", "(II)I"⟩
abbrev cX6_bias : ByteArray := prog_8_method_38_code
def yX6_bias : MethodName := ⟨RX6, "bias", "(I)I"⟩
abbrev cX6_system : ByteArray := prog_8_method_39_code
def yX6_system : MethodName := ⟨RX6, "system", "()V"⟩
abbrev cX6_isCleared : ByteArray := prog_8_method_40_code
def yX6_isCleared : MethodName := ⟨RX6, "isCleared", "(I)Z"⟩
abbrev cX6_forward : ByteArray := prog_8_method_41_code
def yX6_forward : MethodName := ⟨RX6, "forward", "()I"⟩
abbrev cX6_acceleration : ByteArray := prog_8_method_42_code
def yX6_acceleration : MethodName := ⟨RX6, "acceleration", "(I)I"⟩
abbrev cX6_energy : ByteArray := prog_8_method_43_code
def yX6_energy : MethodName := ⟨RX6, "energy", "()I"⟩
abbrev cX6_where : ByteArray := prog_8_method_44_code
def yX6_where : MethodName := ⟨RX6, "where", "(II)I"⟩
abbrev cX6_weight : ByteArray := prog_8_method_45_code
def yX6_weight : MethodName := ⟨RX6, "weight", "(I)I"⟩
abbrev cX6_step : ByteArray := prog_8_method_46_code
def yX6_step : MethodName := ⟨RX6, "step", "(I)V"⟩
def RJ9 : String := "java/lang/Math"
def TJ9 : u_T := fun k => match k with
  | _ => ("", "", "", false)
def tyJ9 : Nat → FieldType := fun k => match k with
  | _ => .int
abbrev wsJ90 : List Cond := u_ws RJ9 TJ9 0
theorem nmJ9 : ∀ a, a < 0 → ∀ b, b < 0 → a ≠ b → (TJ9 a).2.1 ≠ (TJ9 b).2.1 := by decide +kernel
theorem tyJ9_ok : ∀ k, k < 0 → parseFieldDescriptor (TJ9 k).2.2.1 = some (tyJ9 k) := by decide +kernel
abbrev cJ9_floorMod_f86c9 : ByteArray := prog_9_method_52_code
def yJ9_floorMod_f86c9 : MethodName := ⟨RJ9, "floorMod", "(JJ)J"⟩
def RL : String := "LimbWorksLaw"
abbrev cL_law : ByteArray := code
def yL_law : MethodName := ⟨RL, "law", "([I)Z"⟩
abbrev vwCl : List vw_C := [(RX0, TX0, 18), (RX2, TX2, 4), (RX3, TX3, 3), (RX4, TX4, 3), (RX5, TX5, 14), (RX6, TX6, 27)]
