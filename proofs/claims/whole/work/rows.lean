section
-- ===== PART A: goes FIRST, ahead of the names: the tables' words, and 'selects' of the private methods out of them =====
/-- a private method of a class that the tables say can be made, by its rows of tables_1 -/
def lw_okq (q : MethodName × Nat) : Prop := (q.1.cls ≠ "java/lang/invoke/MethodHandle" ∧ q.1.cls ≠ "java/lang/invoke/VarHandle") ∧ Cond.instantiable q.1.cls q.2 ∈ tables_1 ∧ Cond.privateMethod q.1 ∈ tables_1 ∧ Cond.instanceMethod q.1 ∈ tables_1
theorem lw_p0 : lw_okq (⟨"PulseSigns$Row", "orderNeighbours", "(III)I"⟩, 3) := ⟨⟨by decide +kernel, by decide +kernel⟩, List.mem_of_getElem? (i := 61) (by decide +kernel), List.mem_of_getElem? (i := 399) (by decide +kernel), List.mem_of_getElem? (i := 400) (by decide +kernel)⟩
theorem lw_p1 : lw_okq (⟨"PulseSigns$Row", "insert", "(II)V"⟩, 3) := ⟨⟨by decide +kernel, by decide +kernel⟩, List.mem_of_getElem? (i := 61) (by decide +kernel), List.mem_of_getElem? (i := 403) (by decide +kernel), List.mem_of_getElem? (i := 404) (by decide +kernel)⟩
theorem lw_p2 : lw_okq (⟨"PulseSignsModel", "looks", "(IIII)I"⟩, 16) := ⟨⟨by decide +kernel, by decide +kernel⟩, List.mem_of_getElem? (i := 454) (by decide +kernel), List.mem_of_getElem? (i := 535) (by decide +kernel), List.mem_of_getElem? (i := 536) (by decide +kernel)⟩
theorem lw_p3 : lw_okq (⟨"PulseSignsModel", "add", "(II)V"⟩, 16) := ⟨⟨by decide +kernel, by decide +kernel⟩, List.mem_of_getElem? (i := 454) (by decide +kernel), List.mem_of_getElem? (i := 539) (by decide +kernel), List.mem_of_getElem? (i := 540) (by decide +kernel)⟩
theorem lw_p4 : lw_okq (⟨"PulseSignsModel", "peakOf", "(I)I"⟩, 16) := ⟨⟨by decide +kernel, by decide +kernel⟩, List.mem_of_getElem? (i := 454) (by decide +kernel), List.mem_of_getElem? (i := 547) (by decide +kernel), List.mem_of_getElem? (i := 548) (by decide +kernel)⟩
theorem lw_p5 : lw_okq (⟨"PulseSignsModel", "flankOf", "(I)I"⟩, 16) := ⟨⟨by decide +kernel, by decide +kernel⟩, List.mem_of_getElem? (i := 454) (by decide +kernel), List.mem_of_getElem? (i := 555) (by decide +kernel), List.mem_of_getElem? (i := 556) (by decide +kernel)⟩
theorem lw_p6 : lw_okq (⟨"PulseSignsModel", "lay", "(III)V"⟩, 16) := ⟨⟨by decide +kernel, by decide +kernel⟩, List.mem_of_getElem? (i := 454) (by decide +kernel), List.mem_of_getElem? (i := 567) (by decide +kernel), List.mem_of_getElem? (i := 568) (by decide +kernel)⟩
theorem lw_p7 : lw_okq (⟨"PulseSignsModel", "answers", "(II)I"⟩, 16) := ⟨⟨by decide +kernel, by decide +kernel⟩, List.mem_of_getElem? (i := 454) (by decide +kernel), List.mem_of_getElem? (i := 593) (by decide +kernel), List.mem_of_getElem? (i := 594) (by decide +kernel)⟩
theorem lw_p8 : lw_okq (⟨"PulseSignsModel", "greatestOf", "(I)I"⟩, 16) := ⟨⟨by decide +kernel, by decide +kernel⟩, List.mem_of_getElem? (i := 454) (by decide +kernel), List.mem_of_getElem? (i := 601) (by decide +kernel), List.mem_of_getElem? (i := 602) (by decide +kernel)⟩
theorem lw_p9 : lw_okq (⟨"PulseSignsModel", "isRest", "(I)Z"⟩, 16) := ⟨⟨by decide +kernel, by decide +kernel⟩, List.mem_of_getElem? (i := 454) (by decide +kernel), List.mem_of_getElem? (i := 618) (by decide +kernel), List.mem_of_getElem? (i := 619) (by decide +kernel)⟩
theorem lw_p10 : lw_okq (⟨"PulseSignsModel", "fits", "(III)Z"⟩, 16) := ⟨⟨by decide +kernel, by decide +kernel⟩, List.mem_of_getElem? (i := 454) (by decide +kernel), List.mem_of_getElem? (i := 637) (by decide +kernel), List.mem_of_getElem? (i := 638) (by decide +kernel)⟩
theorem lw_p11 : lw_okq (⟨"PulseSignsModel", "isFound", "(IIIII)Z"⟩, 16) := ⟨⟨by decide +kernel, by decide +kernel⟩, List.mem_of_getElem? (i := 454) (by decide +kernel), List.mem_of_getElem? (i := 671) (by decide +kernel), List.mem_of_getElem? (i := 672) (by decide +kernel)⟩
theorem lw_p12 : lw_okq (⟨"PulseSignsModel", "least", "(IIII)I"⟩, 16) := ⟨⟨by decide +kernel, by decide +kernel⟩, List.mem_of_getElem? (i := 454) (by decide +kernel), List.mem_of_getElem? (i := 675) (by decide +kernel), List.mem_of_getElem? (i := 676) (by decide +kernel)⟩
theorem lw_p13 : lw_okq (⟨"PulseSignsModel", "isNear", "(IIII)Z"⟩, 16) := ⟨⟨by decide +kernel, by decide +kernel⟩, List.mem_of_getElem? (i := 454) (by decide +kernel), List.mem_of_getElem? (i := 679) (by decide +kernel), List.mem_of_getElem? (i := 680) (by decide +kernel)⟩
theorem lw_p14 : lw_okq (⟨"PulseSignsModel", "falses", "(III)V"⟩, 16) := ⟨⟨by decide +kernel, by decide +kernel⟩, List.mem_of_getElem? (i := 454) (by decide +kernel), List.mem_of_getElem? (i := 692) (by decide +kernel), List.mem_of_getElem? (i := 693) (by decide +kernel)⟩
theorem lw_p15 : lw_okq (⟨"PulseSignsModel", "mix", "(J)V"⟩, 16) := ⟨⟨by decide +kernel, by decide +kernel⟩, List.mem_of_getElem? (i := 454) (by decide +kernel), List.mem_of_getElem? (i := 710) (by decide +kernel), List.mem_of_getElem? (i := 711) (by decide +kernel)⟩
def lw_privs_1 : List (MethodName × Nat) := [(⟨"PulseSigns$Row", "orderNeighbours", "(III)I"⟩, 3), (⟨"PulseSigns$Row", "insert", "(II)V"⟩, 3), (⟨"PulseSignsModel", "looks", "(IIII)I"⟩, 16), (⟨"PulseSignsModel", "add", "(II)V"⟩, 16), (⟨"PulseSignsModel", "peakOf", "(I)I"⟩, 16), (⟨"PulseSignsModel", "flankOf", "(I)I"⟩, 16), (⟨"PulseSignsModel", "lay", "(III)V"⟩, 16), (⟨"PulseSignsModel", "answers", "(II)I"⟩, 16), (⟨"PulseSignsModel", "greatestOf", "(I)I"⟩, 16), (⟨"PulseSignsModel", "isRest", "(I)Z"⟩, 16), (⟨"PulseSignsModel", "fits", "(III)Z"⟩, 16), (⟨"PulseSignsModel", "isFound", "(IIIII)Z"⟩, 16), (⟨"PulseSignsModel", "least", "(IIII)I"⟩, 16), (⟨"PulseSignsModel", "isNear", "(IIII)Z"⟩, 16), (⟨"PulseSignsModel", "falses", "(III)V"⟩, 16), (⟨"PulseSignsModel", "mix", "(J)V"⟩, 16)]
theorem lw_r1 : ∀ q ∈ lw_privs_1, lw_okq q := List.forall_mem_cons.mpr ⟨lw_p0, List.forall_mem_cons.mpr ⟨lw_p1, List.forall_mem_cons.mpr ⟨lw_p2, List.forall_mem_cons.mpr ⟨lw_p3, List.forall_mem_cons.mpr ⟨lw_p4, List.forall_mem_cons.mpr ⟨lw_p5, List.forall_mem_cons.mpr ⟨lw_p6, List.forall_mem_cons.mpr ⟨lw_p7, List.forall_mem_cons.mpr ⟨lw_p8, List.forall_mem_cons.mpr ⟨lw_p9, List.forall_mem_cons.mpr ⟨lw_p10, List.forall_mem_cons.mpr ⟨lw_p11, List.forall_mem_cons.mpr ⟨lw_p12, List.forall_mem_cons.mpr ⟨lw_p13, List.forall_mem_cons.mpr ⟨lw_p14, List.forall_mem_cons.mpr ⟨lw_p15, fun _ h => absurd h List.not_mem_nil⟩⟩⟩⟩⟩⟩⟩⟩⟩⟩⟩⟩⟩⟩⟩⟩
def lw_privs : List (MethodName × Nat) := lw_privs_1
def lw_tbl : List Cond := k2_sels lw_privs ++ tables_1
theorem lw_privs_ok : ∀ q ∈ lw_privs, lw_okq q := lw_r1
-- ===== end of PART A; then your names; then what follows =====
end
section
/-! ===== BEGIN words of one list among another's, by their places ===== -/
theorem goodIn_r {big : List Cond} (ws : List Cond) (ps : List Nat) (hp : ws = ps.filterMap (fun i => big[i]?)) (h : ws.all goodWord = true) : GoodIn big ws := by
  intro w hw
  have h1 := List.all_eq_true.mp h w hw
  rw [hp] at hw
  obtain ⟨i, -, hi⟩ := List.mem_filterMap.mp hw
  have hm : w ∈ big := by first | exact List.mem_of_getElem? hi | exact List.getElem?_mem hi
  exact ⟨hm, good_of_word h1⟩
theorem goodIn_app {big a b : List Cond} (ha : GoodIn big a) (hb : GoodIn big b) : GoodIn big (a ++ b) := fun w h => (List.mem_append.mp h).elim (ha w) (hb w)
theorem goodIn_ca {big a b : List Cond} {c : Cond} (ha : GoodIn big (c :: a)) (hb : GoodIn big b) : GoodIn big (c :: (a ++ b)) := fun w h => (List.mem_cons.mp h).elim (fun e => ha w (List.mem_cons.mpr (Or.inl e))) (fun h => (List.mem_append.mp h).elim (fun h => ha w (List.mem_cons.mpr (Or.inr h))) (hb w))
theorem goodIn_sub {big ws : List Cond} (hm : ∀ w ∈ ws, w ∈ big) (h : ws.all goodWord = true) : GoodIn big ws := fun w hw => ⟨hm w hw, good_of_word (List.all_eq_true.mp h w hw)⟩
/-! ===== END ===== -/

/-! ===== BEGIN printed: names, fields, word lists, decode rows ===== -/
def RX0 : String := "PulseSigns$Chance"
def TX0 : u_T := fun k => match k with
  | _ => ("", "", "", false)
def tyX0 : Nat → FieldType := fun k => match k with
  | _ => .int
abbrev wsX00 : List Cond := u_ws RX0 TX0 0
theorem nmX0 : ∀ a, a < 0 → ∀ b, b < 0 → a ≠ b → (TX0 a).2.1 ≠ (TX0 b).2.1 := by decide +kernel
theorem tyX0_ok : ∀ k, k < 0 → parseFieldDescriptor (TX0 k).2.2.1 = some (tyX0 k) := by decide +kernel
abbrev cX0_mayOrder : ByteArray := prog_2_method_2_code
def yX0_mayOrder : MethodName := ⟨RX0, "mayOrder", "(II)Z"⟩
abbrev cX0_product : ByteArray := prog_2_method_3_code
def yX0_product : MethodName := ⟨RX0, "product", "(III)J"⟩
abbrev cX0_leastScale : ByteArray := prog_2_method_4_code
def yX0_leastScale : MethodName := ⟨RX0, "leastScale", "(III)I"⟩
def RX1 : String := "PulseSigns$Filter"
def TX1 : u_T := fun k => match k with
  | 0 => ("PulseSigns$Filter", "numbers", "[I", true)
  | _ => ("PulseSigns$Filter", "length", "I", false)
def tyX1 : Nat → FieldType := fun k => match k with
  | 0 => .array .int
  | _ => .int
abbrev wsX10 : List Cond := u_ws RX1 TX1 2
theorem nmX1 : ∀ a, a < 2 → ∀ b, b < 2 → a ≠ b → (TX1 a).2.1 ≠ (TX1 b).2.1 := by decide +kernel
theorem tyX1_ok : ∀ k, k < 2 → parseFieldDescriptor (TX1 k).2.2.1 = some (tyX1 k) := by decide +kernel
abbrev cX1_init : ByteArray := prog_3_method_1_code
def yX1_init : MethodName := ⟨RX1, "<init>", "()V"⟩
abbrev cX1_reset : ByteArray := prog_3_method_2_code
def yX1_reset : MethodName := ⟨RX1, "reset", "(I)V"⟩
abbrev cX1_matchTo : ByteArray := prog_3_method_3_code
def yX1_matchTo : MethodName := ⟨RX1, "matchTo", "(LPulseSigns$Sign;)V"⟩
abbrev cX1_answerPart : ByteArray := prog_3_method_4_code
def yX1_answerPart : MethodName := ⟨RX1, "answerPart", "(LPulseSigns$Sign;II)I"⟩
abbrev cX1_answerSize : ByteArray := prog_3_method_5_code
def yX1_answerSize : MethodName := ⟨RX1, "answerSize", "(LPulseSigns$Sign;I)I"⟩
abbrev cX1_greatestPlace : ByteArray := prog_3_method_6_code
def yX1_greatestPlace : MethodName := ⟨RX1, "greatestPlace", "(LPulseSigns$Sign;)I"⟩
abbrev cX1_clearness : ByteArray := prog_3_method_7_code
def yX1_clearness : MethodName := ⟨RX1, "clearness", "(LPulseSigns$Sign;)I"⟩
def RX2 : String := "PulseSigns$Rests"
def TX2 : u_T := fun k => match k with
  | 0 => ("PulseSigns$Rests", "periods", "[I", true)
  | 1 => ("PulseSigns$Rests", "readings", "[I", true)
  | _ => ("PulseSigns$Rests", "length", "I", false)
def tyX2 : Nat → FieldType := fun k => match k with
  | 0 => .array .int
  | 1 => .array .int
  | _ => .int
abbrev wsX20 : List Cond := u_ws RX2 TX2 3
theorem nmX2 : ∀ a, a < 3 → ∀ b, b < 3 → a ≠ b → (TX2 a).2.1 ≠ (TX2 b).2.1 := by decide +kernel
theorem tyX2_ok : ∀ k, k < 3 → parseFieldDescriptor (TX2 k).2.2.1 = some (tyX2 k) := by decide +kernel
abbrev cX2_init : ByteArray := prog_4_method_1_code
def yX2_init : MethodName := ⟨RX2, "<init>", "()V"⟩
abbrev cX2_mayUnfold : ByteArray := prog_4_method_2_code
def yX2_mayUnfold : MethodName := ⟨RX2, "mayUnfold", "(III)Z"⟩
abbrev cX2_has : ByteArray := prog_4_method_3_code
def yX2_has : MethodName := ⟨RX2, "has", "(I)Z"⟩
abbrev cX2_reset : ByteArray := prog_4_method_4_code
def yX2_reset : MethodName := ⟨RX2, "reset", "(I)V"⟩
abbrev cX2_readAll : ByteArray := prog_4_method_5_code
def yX2_readAll : MethodName := ⟨RX2, "readAll", "(I)V"⟩
abbrev cX2_isNear : ByteArray := prog_4_method_6_code
def yX2_isNear : MethodName := ⟨RX2, "isNear", "(III)Z"⟩
abbrev cX2_fits : ByteArray := prog_4_method_7_code
def yX2_fits : MethodName := ⟨RX2, "fits", "(III)Z"⟩
abbrev cX2_fitting : ByteArray := prog_4_method_8_code
def yX2_fitting : MethodName := ⟨RX2, "fitting", "(III)I"⟩
abbrev cX2_fittingAt : ByteArray := prog_4_method_9_code
def yX2_fittingAt : MethodName := ⟨RX2, "fittingAt", "(IIII)I"⟩
abbrev cX2_leastCommon : ByteArray := prog_4_method_10_code
def yX2_leastCommon : MethodName := ⟨RX2, "leastCommon", "()I"⟩
abbrev cX2_unseen : ByteArray := prog_4_method_11_code
def yX2_unseen : MethodName := ⟨RX2, "unseen", "(III)I"⟩
def RX3 : String := "PulseSigns$Row"
def TX3 : u_T := fun k => match k with
  | 0 => ("PulseSigns$Row", "numbers", "[I", true)
  | 1 => ("PulseSigns$Row", "length", "I", false)
  | _ => ("PulseSigns$Row", "ordered", "[I", true)
def tyX3 : Nat → FieldType := fun k => match k with
  | 0 => .array .int
  | 1 => .int
  | _ => .array .int
abbrev wsX30 : List Cond := u_ws RX3 TX3 3
theorem nmX3 : ∀ a, a < 3 → ∀ b, b < 3 → a ≠ b → (TX3 a).2.1 ≠ (TX3 b).2.1 := by decide +kernel
theorem tyX3_ok : ∀ k, k < 3 → parseFieldDescriptor (TX3 k).2.2.1 = some (tyX3 k) := by decide +kernel
abbrev cX3_init : ByteArray := prog_5_method_1_code
def yX3_init : MethodName := ⟨RX3, "<init>", "()V"⟩
abbrev cX3_maySeek : ByteArray := prog_5_method_2_code
def yX3_maySeek : MethodName := ⟨RX3, "maySeek", "(IIII)Z"⟩
abbrev cX3_append : ByteArray := prog_5_method_3_code
def yX3_append : MethodName := ⟨RX3, "append", "(I)Z"⟩
abbrev cX3_standsOut : ByteArray := prog_5_method_4_code
def yX3_standsOut : MethodName := ⟨RX3, "standsOut", "(IIIII)Z"⟩
abbrev cX3_standingOut : ByteArray := prog_5_method_5_code
def yX3_standingOut : MethodName := ⟨RX3, "standingOut", "(IIII)I"⟩
abbrev cX3_orderNeighbours : ByteArray := prog_5_method_6_code
def yX3_orderNeighbours : MethodName := ⟨RX3, "orderNeighbours", "(III)I"⟩
abbrev cX3_insert : ByteArray := prog_5_method_7_code
def yX3_insert : MethodName := ⟨RX3, "insert", "(II)V"⟩
def RX4 : String := "PulseSigns$Search"
def TX4 : u_T := fun k => match k with
  | _ => ("", "", "", false)
def tyX4 : Nat → FieldType := fun k => match k with
  | _ => .int
abbrev wsX40 : List Cond := u_ws RX4 TX4 0
theorem nmX4 : ∀ a, a < 0 → ∀ b, b < 0 → a ≠ b → (TX4 a).2.1 ≠ (TX4 b).2.1 := by decide +kernel
theorem tyX4_ok : ∀ k, k < 0 → parseFieldDescriptor (TX4 k).2.2.1 = some (tyX4 k) := by decide +kernel
abbrev cX4_leastSided : ByteArray := prog_6_method_2_code
def yX4_leastSided : MethodName := ⟨RX4, "leastSided", "(I)I"⟩
abbrev cX4_peakOf : ByteArray := prog_6_method_3_code
def yX4_peakOf : MethodName := ⟨RX4, "peakOf", "(III)I"⟩
abbrev cX4_flankOf : ByteArray := prog_6_method_4_code
def yX4_flankOf : MethodName := ⟨RX4, "flankOf", "(II)I"⟩
abbrev cX4_side : ByteArray := prog_6_method_5_code
def yX4_side : MethodName := ⟨RX4, "side", "(III)I"⟩
def RX5 : String := "PulseSigns$Sign"
def TX5 : u_T := fun k => match k with
  | 0 => ("PulseSigns$Sign", "turns", "[I", true)
  | _ => ("PulseSigns$Sign", "length", "I", false)
def tyX5 : Nat → FieldType := fun k => match k with
  | 0 => .array .int
  | _ => .int
abbrev wsX50 : List Cond := u_ws RX5 TX5 2
theorem nmX5 : ∀ a, a < 2 → ∀ b, b < 2 → a ≠ b → (TX5 a).2.1 ≠ (TX5 b).2.1 := by decide +kernel
theorem tyX5_ok : ∀ k, k < 2 → parseFieldDescriptor (TX5 k).2.2.1 = some (tyX5 k) := by decide +kernel
abbrev cX5_init : ByteArray := prog_7_method_1_code
def yX5_init : MethodName := ⟨RX5, "<init>", "()V"⟩
abbrev cX5_has : ByteArray := prog_7_method_2_code
def yX5_has : MethodName := ⟨RX5, "has", "(I)Z"⟩
abbrev cX5_reset : ByteArray := prog_7_method_3_code
def yX5_reset : MethodName := ⟨RX5, "reset", "(I)V"⟩
abbrev cX5_copy : ByteArray := prog_7_method_4_code
def yX5_copy : MethodName := ⟨RX5, "copy", "(LPulseSigns$Sign;)V"⟩
abbrev cX5_reverse : ByteArray := prog_7_method_5_code
def yX5_reverse : MethodName := ⟨RX5, "reverse", "()V"⟩
abbrev cX5_mirror : ByteArray := prog_7_method_6_code
def yX5_mirror : MethodName := ⟨RX5, "mirror", "()V"⟩
abbrev cX5_advance : ByteArray := prog_7_method_7_code
def yX5_advance : MethodName := ⟨RX5, "advance", "()V"⟩
abbrev cX5_takeBits : ByteArray := prog_7_method_8_code
def yX5_takeBits : MethodName := ⟨RX5, "takeBits", "(II)V"⟩
abbrev cX5_lookPart : ByteArray := prog_7_method_9_code
def yX5_lookPart : MethodName := ⟨RX5, "lookPart", "(LPulseSigns$Sign;III)I"⟩
abbrev cX5_ownLookSize : ByteArray := prog_7_method_10_code
def yX5_ownLookSize : MethodName := ⟨RX5, "ownLookSize", "(II)I"⟩
abbrev cX5_greatestSide : ByteArray := prog_7_method_11_code
def yX5_greatestSide : MethodName := ⟨RX5, "greatestSide", "()I"⟩
abbrev cX5_sumOfSides : ByteArray := prog_7_method_12_code
def yX5_sumOfSides : MethodName := ⟨RX5, "sumOfSides", "()I"⟩
abbrev cX5_greatestOwnLook : ByteArray := prog_7_method_13_code
def yX5_greatestOwnLook : MethodName := ⟨RX5, "greatestOwnLook", "()I"⟩
abbrev cX5_sidesGoOutWith : ByteArray := prog_7_method_14_code
def yX5_sidesGoOutWith : MethodName := ⟨RX5, "sidesGoOutWith", "(LPulseSigns$Sign;)Z"⟩
def RX6 : String := "PulseSigns"
def TX6 : u_T := fun k => match k with
  | 0 => ("PulseSigns", "signs", "[LPulseSigns$Sign;", true)
  | 1 => ("PulseSigns", "sieve", "LPulseSigns$Filter;", true)
  | 2 => ("PulseSigns", "ways", "LPulseSigns$Rests;", true)
  | 3 => ("PulseSigns", "line", "LPulseSigns$Row;", true)
  | _ => ("PulseSigns", "searches", "I", false)
def tyX6 : Nat → FieldType := fun k => match k with
  | 0 => .array (.object "PulseSigns$Sign")
  | 1 => .object "PulseSigns$Filter"
  | 2 => .object "PulseSigns$Rests"
  | 3 => .object "PulseSigns$Row"
  | _ => .int
abbrev wsX60 : List Cond := u_ws RX6 TX6 5
theorem nmX6 : ∀ a, a < 5 → ∀ b, b < 5 → a ≠ b → (TX6 a).2.1 ≠ (TX6 b).2.1 := by decide +kernel
theorem tyX6_ok : ∀ k, k < 5 → parseFieldDescriptor (TX6 k).2.2.1 = some (tyX6 k) := by decide +kernel
abbrev cX6_init : ByteArray := prog_1_method_1_code
def yX6_init : MethodName := ⟨RX6, "<init>", "()V"⟩
abbrev cX6_size : ByteArray := prog_1_method_2_code
def yX6_size : MethodName := ⟨RX6, "size", "(II)I"⟩
abbrev cX6_turn : ByteArray := prog_1_method_3_code
def yX6_turn : MethodName := ⟨RX6, "turn", "(III)I"⟩
abbrev cX6_turned : ByteArray := prog_1_method_4_code
def yX6_turned : MethodName := ⟨RX6, "turned", "(II)I"⟩
abbrev cX6_made : ByteArray := prog_1_method_5_code
def yX6_made : MethodName := ⟨RX6, "made", "(III)I"⟩
abbrev cX6_look : ByteArray := prog_1_method_6_code
def yX6_look : MethodName := ⟨RX6, "look", "(IIIII)I"⟩
abbrev cX6_peak : ByteArray := prog_1_method_7_code
def yX6_peak : MethodName := ⟨RX6, "peak", "(I)I"⟩
abbrev cX6_flank : ByteArray := prog_1_method_8_code
def yX6_flank : MethodName := ⟨RX6, "flank", "(I)I"⟩
abbrev cX6_worst : ByteArray := prog_1_method_9_code
def yX6_worst : MethodName := ⟨RX6, "worst", "(I)I"⟩
abbrev cX6_best : ByteArray := prog_1_method_10_code
def yX6_best : MethodName := ⟨RX6, "best", "(II)I"⟩
abbrev cX6_pair : ByteArray := prog_1_method_11_code
def yX6_pair : MethodName := ⟨RX6, "pair", "(II)I"⟩
abbrev cX6_filter : ByteArray := prog_1_method_12_code
def yX6_filter : MethodName := ⟨RX6, "filter", "(I)I"⟩
abbrev cX6_weight : ByteArray := prog_1_method_13_code
def yX6_weight : MethodName := ⟨RX6, "weight", "(II)I"⟩
abbrev cX6_own : ByteArray := prog_1_method_14_code
def yX6_own : MethodName := ⟨RX6, "own", "(I)I"⟩
abbrev cX6_answer : ByteArray := prog_1_method_15_code
def yX6_answer : MethodName := ⟨RX6, "answer", "(III)I"⟩
abbrev cX6_greatest : ByteArray := prog_1_method_16_code
def yX6_greatest : MethodName := ⟨RX6, "greatest", "(I)I"⟩
abbrev cX6_clear : ByteArray := prog_1_method_17_code
def yX6_clear : MethodName := ⟨RX6, "clear", "(I)I"⟩
abbrev cX6_rests : ByteArray := prog_1_method_18_code
def yX6_rests : MethodName := ⟨RX6, "rests", "(I)I"⟩
abbrev cX6_rest : ByteArray := prog_1_method_19_code
def yX6_rest : MethodName := ⟨RX6, "rest", "(II)I"⟩
abbrev cX6_read : ByteArray := prog_1_method_20_code
def yX6_read : MethodName := ⟨RX6, "read", "(II)I"⟩
abbrev cX6_fold : ByteArray := prog_1_method_21_code
def yX6_fold : MethodName := ⟨RX6, "fold", "(I)I"⟩
abbrev cX6_unfold : ByteArray := prog_1_method_22_code
def yX6_unfold : MethodName := ⟨RX6, "unfold", "(III)I"⟩
abbrev cX6_unfolded : ByteArray := prog_1_method_23_code
def yX6_unfolded : MethodName := ⟨RX6, "unfolded", "(IIII)I"⟩
abbrev cX6_common : ByteArray := prog_1_method_24_code
def yX6_common : MethodName := ⟨RX6, "common", "()I"⟩
abbrev cX6_blind : ByteArray := prog_1_method_25_code
def yX6_blind : MethodName := ⟨RX6, "blind", "(II)I"⟩
abbrev cX6_put : ByteArray := prog_1_method_26_code
def yX6_put : MethodName := ⟨RX6, "put", "(I)I"⟩
abbrev cX6_empty : ByteArray := prog_1_method_27_code
def yX6_empty : MethodName := ⟨RX6, "empty", "()I"⟩
abbrev cX6_found : ByteArray := prog_1_method_28_code
def yX6_found : MethodName := ⟨RX6, "found", "(IIIII)I"⟩
abbrev cX6_count : ByteArray := prog_1_method_29_code
def yX6_count : MethodName := ⟨RX6, "count", "(IIII)I"⟩
abbrev cX6_share : ByteArray := prog_1_method_30_code
def yX6_share : MethodName := ⟨RX6, "share", "(IIII)J"⟩
abbrev cX6_scale : ByteArray := prog_1_method_31_code
def yX6_scale : MethodName := ⟨RX6, "scale", "(III)I"⟩
abbrev cX6_told : ByteArray := prog_1_method_32_code
def yX6_told : MethodName := ⟨RX6, "told", "(I)I"⟩
abbrev cX6_digest : ByteArray := prog_1_method_33_code
def yX6_digest : MethodName := ⟨RX6, "digest", "()J"⟩
abbrev cX6_mix : ByteArray := prog_1_method_34_code
def yX6_mix : MethodName := ⟨RX6, "mix", "(JJ)J"⟩
abbrev cX6_mixAll : ByteArray := prog_1_method_35_code
def yX6_mixAll : MethodName := ⟨RX6, "mixAll", "(J[II)J"⟩
abbrev cX6_within : ByteArray := prog_1_method_36_code
def yX6_within : MethodName := ⟨RX6, "within", "(III)Z"⟩
abbrev cX6_isSign : ByteArray := prog_1_method_37_code
def yX6_isSign : MethodName := ⟨RX6, "isSign", "(I)Z"⟩
abbrev cX6_isPart : ByteArray := prog_1_method_38_code
def yX6_isPart : MethodName := ⟨RX6, "isPart", "(I)Z"⟩
abbrev cX6_partOfTurn : ByteArray := prog_1_method_39_code
def yX6_partOfTurn : MethodName := ⟨RX6, "partOfTurn", "(II)I"⟩
abbrev cX6_commonDivisor : ByteArray := prog_1_method_40_code
def yX6_commonDivisor : MethodName := ⟨RX6, "commonDivisor", "(JJ)J"⟩
def RX7 : String := "PulseSignsModel"
def TX7 : u_T := fun k => match k with
  | 0 => ("PulseSignsModel", "sizes", "[I", true)
  | 1 => ("PulseSignsModel", "turns", "[I", true)
  | 2 => ("PulseSignsModel", "filterSize", "I", false)
  | 3 => ("PulseSignsModel", "weights", "[I", true)
  | 4 => ("PulseSignsModel", "restMany", "I", false)
  | 5 => ("PulseSignsModel", "restOf", "[I", true)
  | 6 => ("PulseSignsModel", "readOf", "[I", true)
  | 7 => ("PulseSignsModel", "rowSize", "I", false)
  | 8 => ("PulseSignsModel", "row", "[I", true)
  | 9 => ("PulseSignsModel", "bests", "I", false)
  | 10 => ("PulseSignsModel", "real", "I", false)
  | 11 => ("PulseSignsModel", "other", "I", false)
  | 12 => ("PulseSignsModel", "copy", "[I", true)
  | 13 => ("PulseSignsModel", "above", "J", false)
  | 14 => ("PulseSignsModel", "below", "J", false)
  | _ => ("PulseSignsModel", "h", "J", false)
def tyX7 : Nat → FieldType := fun k => match k with
  | 0 => .array .int
  | 1 => .array .int
  | 2 => .int
  | 3 => .array .int
  | 4 => .int
  | 5 => .array .int
  | 6 => .array .int
  | 7 => .int
  | 8 => .array .int
  | 9 => .int
  | 10 => .int
  | 11 => .int
  | 12 => .array .int
  | 13 => .long
  | 14 => .long
  | _ => .long
abbrev wsX70 : List Cond := u_ws RX7 TX7 16
theorem nmX7 : ∀ a, a < 16 → ∀ b, b < 16 → a ≠ b → (TX7 a).2.1 ≠ (TX7 b).2.1 := by decide +kernel
theorem tyX7_ok : ∀ k, k < 16 → parseFieldDescriptor (TX7 k).2.2.1 = some (tyX7 k) := by decide +kernel
abbrev cX7_init : ByteArray := prog_9_method_1_code
def yX7_init : MethodName := ⟨RX7, "<init>", "()V"⟩
abbrev cX7_in : ByteArray := prog_9_method_3_code
def yX7_in : MethodName := ⟨RX7, "in", "(III)Z"⟩
abbrev cX7_isSign : ByteArray := prog_9_method_4_code
def yX7_isSign : MethodName := ⟨RX7, "isSign", "(I)Z"⟩
abbrev cX7_size : ByteArray := prog_9_method_5_code
def yX7_size : MethodName := ⟨RX7, "size", "(II)I"⟩
abbrev cX7_turn : ByteArray := prog_9_method_6_code
def yX7_turn : MethodName := ⟨RX7, "turn", "(III)I"⟩
abbrev cX7_turned : ByteArray := prog_9_method_7_code
def yX7_turned : MethodName := ⟨RX7, "turned", "(II)I"⟩
abbrev cX7_made : ByteArray := prog_9_method_8_code
def yX7_made : MethodName := ⟨RX7, "made", "(III)I"⟩
abbrev cX7_add : ByteArray := prog_9_method_9_code
def yX7_add : MethodName := ⟨RX7, "add", "(II)V"⟩
abbrev cX7_looks : ByteArray := prog_9_method_10_code
def yX7_looks : MethodName := ⟨RX7, "looks", "(IIII)I"⟩
abbrev cX7_look : ByteArray := prog_9_method_11_code
def yX7_look : MethodName := ⟨RX7, "look", "(IIIII)I"⟩
abbrev cX7_peakOf : ByteArray := prog_9_method_12_code
def yX7_peakOf : MethodName := ⟨RX7, "peakOf", "(I)I"⟩
abbrev cX7_flankOf : ByteArray := prog_9_method_13_code
def yX7_flankOf : MethodName := ⟨RX7, "flankOf", "(I)I"⟩
abbrev cX7_peak : ByteArray := prog_9_method_14_code
def yX7_peak : MethodName := ⟨RX7, "peak", "(I)I"⟩
abbrev cX7_flank : ByteArray := prog_9_method_15_code
def yX7_flank : MethodName := ⟨RX7, "flank", "(I)I"⟩
abbrev cX7_worst : ByteArray := prog_9_method_16_code
def yX7_worst : MethodName := ⟨RX7, "worst", "(I)I"⟩
abbrev cX7_lay : ByteArray := prog_9_method_17_code
def yX7_lay : MethodName := ⟨RX7, "lay", "(III)V"⟩
abbrev cX7_best : ByteArray := prog_9_method_18_code
def yX7_best : MethodName := ⟨RX7, "best", "(II)I"⟩
abbrev cX7_pair : ByteArray := prog_9_method_19_code
def yX7_pair : MethodName := ⟨RX7, "pair", "(II)I"⟩
abbrev cX7_filter : ByteArray := prog_9_method_20_code
def yX7_filter : MethodName := ⟨RX7, "filter", "(I)I"⟩
abbrev cX7_weight : ByteArray := prog_9_method_21_code
def yX7_weight : MethodName := ⟨RX7, "weight", "(II)I"⟩
abbrev cX7_own : ByteArray := prog_9_method_22_code
def yX7_own : MethodName := ⟨RX7, "own", "(I)I"⟩
abbrev cX7_answers : ByteArray := prog_9_method_23_code
def yX7_answers : MethodName := ⟨RX7, "answers", "(II)I"⟩
abbrev cX7_answer : ByteArray := prog_9_method_24_code
def yX7_answer : MethodName := ⟨RX7, "answer", "(III)I"⟩
abbrev cX7_greatestOf : ByteArray := prog_9_method_25_code
def yX7_greatestOf : MethodName := ⟨RX7, "greatestOf", "(I)I"⟩
abbrev cX7_greatest : ByteArray := prog_9_method_26_code
def yX7_greatest : MethodName := ⟨RX7, "greatest", "(I)I"⟩
abbrev cX7_clear : ByteArray := prog_9_method_27_code
def yX7_clear : MethodName := ⟨RX7, "clear", "(I)I"⟩
abbrev cX7_rests : ByteArray := prog_9_method_28_code
def yX7_rests : MethodName := ⟨RX7, "rests", "(I)I"⟩
abbrev cX7_isRest : ByteArray := prog_9_method_29_code
def yX7_isRest : MethodName := ⟨RX7, "isRest", "(I)Z"⟩
abbrev cX7_rest : ByteArray := prog_9_method_30_code
def yX7_rest : MethodName := ⟨RX7, "rest", "(II)I"⟩
abbrev cX7_read : ByteArray := prog_9_method_31_code
def yX7_read : MethodName := ⟨RX7, "read", "(II)I"⟩
abbrev cX7_fold : ByteArray := prog_9_method_32_code
def yX7_fold : MethodName := ⟨RX7, "fold", "(I)I"⟩
abbrev cX7_fits : ByteArray := prog_9_method_33_code
def yX7_fits : MethodName := ⟨RX7, "fits", "(III)Z"⟩
abbrev cX7_isAsked : ByteArray := prog_9_method_34_code
def yX7_isAsked : MethodName := ⟨RX7, "isAsked", "(III)Z"⟩
abbrev cX7_unfold : ByteArray := prog_9_method_35_code
def yX7_unfold : MethodName := ⟨RX7, "unfold", "(III)I"⟩
abbrev cX7_unfolded : ByteArray := prog_9_method_36_code
def yX7_unfolded : MethodName := ⟨RX7, "unfolded", "(IIII)I"⟩
abbrev cX7_shared : ByteArray := prog_9_method_37_code
def yX7_shared : MethodName := ⟨RX7, "shared", "(JJ)J"⟩
abbrev cX7_common : ByteArray := prog_9_method_38_code
def yX7_common : MethodName := ⟨RX7, "common", "()I"⟩
abbrev cX7_blind : ByteArray := prog_9_method_39_code
def yX7_blind : MethodName := ⟨RX7, "blind", "(II)I"⟩
abbrev cX7_put : ByteArray := prog_9_method_40_code
def yX7_put : MethodName := ⟨RX7, "put", "(I)I"⟩
abbrev cX7_empty : ByteArray := prog_9_method_41_code
def yX7_empty : MethodName := ⟨RX7, "empty", "()I"⟩
abbrev cX7_isNear : ByteArray := prog_9_method_42_code
def yX7_isNear : MethodName := ⟨RX7, "isNear", "(IIII)Z"⟩
abbrev cX7_least : ByteArray := prog_9_method_43_code
def yX7_least : MethodName := ⟨RX7, "least", "(IIII)I"⟩
abbrev cX7_isFound : ByteArray := prog_9_method_44_code
def yX7_isFound : MethodName := ⟨RX7, "isFound", "(IIIII)Z"⟩
abbrev cX7_isScaled : ByteArray := prog_9_method_45_code
def yX7_isScaled : MethodName := ⟨RX7, "isScaled", "(IIII)Z"⟩
abbrev cX7_found : ByteArray := prog_9_method_46_code
def yX7_found : MethodName := ⟨RX7, "found", "(IIIII)I"⟩
abbrev cX7_count : ByteArray := prog_9_method_47_code
def yX7_count : MethodName := ⟨RX7, "count", "(IIII)I"⟩
abbrev cX7_falses : ByteArray := prog_9_method_48_code
def yX7_falses : MethodName := ⟨RX7, "falses", "(III)V"⟩
abbrev cX7_share : ByteArray := prog_9_method_49_code
def yX7_share : MethodName := ⟨RX7, "share", "(IIII)J"⟩
abbrev cX7_scale : ByteArray := prog_9_method_50_code
def yX7_scale : MethodName := ⟨RX7, "scale", "(III)I"⟩
abbrev cX7_told : ByteArray := prog_9_method_51_code
def yX7_told : MethodName := ⟨RX7, "told", "(I)I"⟩
abbrev cX7_mix : ByteArray := prog_9_method_52_code
def yX7_mix : MethodName := ⟨RX7, "mix", "(J)V"⟩
abbrev cX7_digest : ByteArray := prog_9_method_53_code
def yX7_digest : MethodName := ⟨RX7, "digest", "()J"⟩
def RJ6 : String := "java/lang/Integer"
def TJ6 : u_T := fun k => match k with
  | _ => ("", "", "", false)
def tyJ6 : Nat → FieldType := fun k => match k with
  | _ => .int
abbrev wsJ60 : List Cond := u_ws RJ6 TJ6 0
theorem nmJ6 : ∀ a, a < 0 → ∀ b, b < 0 → a ≠ b → (TJ6 a).2.1 ≠ (TJ6 b).2.1 := by decide +kernel
theorem tyJ6_ok : ∀ k, k < 0 → parseFieldDescriptor (TJ6 k).2.2.1 = some (tyJ6 k) := by decide +kernel
abbrev cJ6_bitCount_0f7a4 : ByteArray := prog_10_method_49_code
def yJ6_bitCount_0f7a4 : MethodName := ⟨RJ6, "bitCount", "(I)I"⟩
def RJ9 : String := "java/lang/Math"
def TJ9 : u_T := fun k => match k with
  | _ => ("", "", "", false)
def tyJ9 : Nat → FieldType := fun k => match k with
  | _ => .int
abbrev wsJ90 : List Cond := u_ws RJ9 TJ9 0
theorem nmJ9 : ∀ a, a < 0 → ∀ b, b < 0 → a ≠ b → (TJ9 a).2.1 ≠ (TJ9 b).2.1 := by decide +kernel
theorem tyJ9_ok : ∀ k, k < 0 → parseFieldDescriptor (TJ9 k).2.2.1 = some (tyJ9 k) := by decide +kernel
abbrev cJ9_abs_0f7a4 : ByteArray := prog_11_method_59_code
def yJ9_abs_0f7a4 : MethodName := ⟨RJ9, "abs", "(I)I"⟩
abbrev cJ9_max_7cf53 : ByteArray := prog_11_method_65_code
def yJ9_max_7cf53 : MethodName := ⟨RJ9, "max", "(II)I"⟩
abbrev cJ9_min_7cf53 : ByteArray := prog_11_method_69_code
def yJ9_min_7cf53 : MethodName := ⟨RJ9, "min", "(II)I"⟩
def RL : String := "PulseSignsLaw"
abbrev cL_law : ByteArray := code
def yL_law : MethodName := ⟨RL, "law", "([I)Z"⟩
def wsX6_within : List Cond := .code yX6_within cX6_within 3 (some .boolean) :: ([])
def wsX0_mayOrder : List Cond := .code yX0_mayOrder cX0_mayOrder 2 (some .boolean) :: ([.static yX6_within, .initialized RX6, .code yX6_within cX6_within 3 (some .boolean)])
def wsX0_product : List Cond := .code yX0_product cX0_product 6 (some .long) :: ([])
def wsX0_leastScale : List Cond := .code yX0_leastScale cX0_leastScale 6 (some .int) :: ([.methodLink RX0 15 yX0_product, .static yX0_product, .initialized RX0, .code yX0_product cX0_product 6 (some .long)])
def wsX1_init : List Cond := .code yX1_init cX1_init 1 none :: ([.methodLink RX1 1 objectInit, .instanceMethod objectInit, .code objectInit ⟨#[0xb1]⟩ 1 none, .arrayClass .int, .fieldLink RX1 9 "PulseSigns$Filter" "numbers" "[I", .fieldLink RX1 13 "PulseSigns$Filter" "length" "I"] ++ wsX10)
def wsX1_reset : List Cond := .code yX1_reset cX1_reset 3 none :: ([.fieldLink RX1 13 "PulseSigns$Filter" "length" "I", .fieldLink RX1 9 "PulseSigns$Filter" "numbers" "[I"] ++ wsX10)
def wsX6_partOfTurn : List Cond := .code yX6_partOfTurn cX6_partOfTurn 3 (some .int) :: ([])
def wsX1_matchTo : List Cond := .code yX1_matchTo cX1_matchTo 3 none :: ([.fieldLink RX1 17 "PulseSigns$Sign" "length" "I", .fieldLink RX1 13 "PulseSigns$Filter" "length" "I", .fieldLink RX1 9 "PulseSigns$Filter" "numbers" "[I", .fieldLink RX1 20 "PulseSigns$Sign" "turns" "[I", .static yX6_partOfTurn, .initialized RX6, .code yX6_partOfTurn cX6_partOfTurn 3 (some .int)] ++ wsX50 ++ wsX10)
def wsX5_has : List Cond := .code yX5_has cX5_has 2 (some .boolean) :: ([.fieldLink RX5 13 "PulseSigns$Sign" "length" "I", .static yX6_within, .initialized RX6, .code yX6_within cX6_within 3 (some .boolean)] ++ wsX50)
def wsX1_answerPart : List Cond := .code yX1_answerPart cX1_answerPart 6 (some .int) :: ([.fieldLink RX1 13 "PulseSigns$Filter" "length" "I", .fieldLink RX1 9 "PulseSigns$Filter" "numbers" "[I", .fieldLink RX1 20 "PulseSigns$Sign" "turns" "[I", .methodLink RX1 29 yX5_has, .instanceMethod yX5_has, .selects RX5 yX5_has yX5_has, .initialized RX5, .code yX5_has cX5_has 2 (some .boolean), .fieldLink RX5 13 "PulseSigns$Sign" "length" "I", .static yX6_within, .initialized RX6, .code yX6_within cX6_within 3 (some .boolean), .static yX6_partOfTurn, .code yX6_partOfTurn cX6_partOfTurn 3 (some .int)] ++ wsX10 ++ wsX50)
def wsX1_answerSize : List Cond := .code yX1_answerSize cX1_answerSize 5 (some .int) :: ([.methodLink RX1 33 yX1_answerPart, .instanceMethod yX1_answerPart, .selects RX1 yX1_answerPart yX1_answerPart, .initialized RX1, .code yX1_answerPart cX1_answerPart 6 (some .int), .fieldLink RX1 13 "PulseSigns$Filter" "length" "I", .fieldLink RX1 9 "PulseSigns$Filter" "numbers" "[I", .fieldLink RX1 20 "PulseSigns$Sign" "turns" "[I", .methodLink RX1 29 yX5_has, .instanceMethod yX5_has, .selects RX5 yX5_has yX5_has, .initialized RX5, .code yX5_has cX5_has 2 (some .boolean), .fieldLink RX5 13 "PulseSigns$Sign" "length" "I", .static yX6_within, .initialized RX6, .code yX6_within cX6_within 3 (some .boolean), .static yX6_partOfTurn, .code yX6_partOfTurn cX6_partOfTurn 3 (some .int)] ++ wsX10 ++ wsX50)
def wsX1_greatestPlace : List Cond := .code yX1_greatestPlace cX1_greatestPlace 6 (some .int) :: ([.fieldLink RX1 13 "PulseSigns$Filter" "length" "I", .fieldLink RX1 17 "PulseSigns$Sign" "length" "I", .methodLink RX1 37 yX1_answerSize, .instanceMethod yX1_answerSize, .selects RX1 yX1_answerSize yX1_answerSize, .initialized RX1, .code yX1_answerSize cX1_answerSize 5 (some .int), .methodLink RX1 33 yX1_answerPart, .instanceMethod yX1_answerPart, .selects RX1 yX1_answerPart yX1_answerPart, .code yX1_answerPart cX1_answerPart 6 (some .int), .fieldLink RX1 9 "PulseSigns$Filter" "numbers" "[I", .fieldLink RX1 20 "PulseSigns$Sign" "turns" "[I", .methodLink RX1 29 yX5_has, .instanceMethod yX5_has, .selects RX5 yX5_has yX5_has, .initialized RX5, .code yX5_has cX5_has 2 (some .boolean), .fieldLink RX5 13 "PulseSigns$Sign" "length" "I", .static yX6_within, .initialized RX6, .code yX6_within cX6_within 3 (some .boolean), .static yX6_partOfTurn, .code yX6_partOfTurn cX6_partOfTurn 3 (some .int)] ++ wsX10 ++ wsX50)
def wsX1_clearness_r1 : List Cond := [Cond.fieldLink RX1 13 "PulseSigns$Filter" "length" "I", Cond.fieldLink RX1 17 "PulseSigns$Sign" "length" "I", Cond.methodLink RX1 45 Lib.Math.max.name, Cond.static Lib.Math.max.name, Cond.initialized "java/lang/Math", Cond.code Lib.Math.max.name Lib.Math.max.code 2 (some .int), Cond.constant RX1 50 (1000000), Cond.methodLink RX1 41 yX1_greatestPlace, Cond.instanceMethod yX1_greatestPlace, Cond.selects RX1 yX1_greatestPlace yX1_greatestPlace, Cond.initialized RX1, Cond.code yX1_greatestPlace cX1_greatestPlace 6 (some .int), Cond.methodLink RX1 37 yX1_answerSize, Cond.instanceMethod yX1_answerSize, Cond.selects RX1 yX1_answerSize yX1_answerSize, Cond.code yX1_answerSize cX1_answerSize 5 (some .int), Cond.methodLink RX1 33 yX1_answerPart, Cond.instanceMethod yX1_answerPart, Cond.selects RX1 yX1_answerPart yX1_answerPart, Cond.code yX1_answerPart cX1_answerPart 6 (some .int), Cond.fieldLink RX1 9 "PulseSigns$Filter" "numbers" "[I", Cond.fieldLink RX1 20 "PulseSigns$Sign" "turns" "[I", Cond.methodLink RX1 29 yX5_has, Cond.instanceMethod yX5_has]
def wsX1_clearness_r2 : List Cond := [Cond.selects RX5 yX5_has yX5_has, Cond.initialized RX5, Cond.code yX5_has cX5_has 2 (some .boolean), Cond.fieldLink RX5 13 "PulseSigns$Sign" "length" "I", Cond.static yX6_within, Cond.initialized RX6, Cond.code yX6_within cX6_within 3 (some .boolean), Cond.static yX6_partOfTurn, Cond.code yX6_partOfTurn cX6_partOfTurn 3 (some .int)]
def wsX1_clearness : List Cond := .code yX1_clearness cX1_clearness 6 (some .int) :: ((wsX1_clearness_r1 ++ wsX1_clearness_r2) ++ wsX10 ++ wsX50)
def wsX2_reset : List Cond := .code yX2_reset cX2_reset 3 none :: ([.fieldLink RX2 26 "PulseSigns$Rests" "length" "I", .fieldLink RX2 11 "PulseSigns$Rests" "periods" "[I", .fieldLink RX2 15 "PulseSigns$Rests" "readings" "[I"] ++ wsX20)
def wsX2_init : List Cond := .code yX2_init cX2_init 1 none :: ([.methodLink RX2 3 objectInit, .instanceMethod objectInit, .code objectInit ⟨#[0xb1]⟩ 1 none, .arrayClass .int, .fieldLink RX2 11 "PulseSigns$Rests" "periods" "[I", .fieldLink RX2 15 "PulseSigns$Rests" "readings" "[I", .methodLink RX2 18 yX2_reset, .instanceMethod yX2_reset, .selects RX2 yX2_reset yX2_reset, .initialized RX2, .code yX2_reset cX2_reset 3 none, .fieldLink RX2 26 "PulseSigns$Rests" "length" "I"] ++ wsX20)
def wsX2_mayUnfold : List Cond := .code yX2_mayUnfold cX2_mayUnfold 3 (some .boolean) :: ([.static yX6_within, .initialized RX6, .code yX6_within cX6_within 3 (some .boolean)])
def wsX2_has : List Cond := .code yX2_has cX2_has 2 (some .boolean) :: ([.fieldLink RX2 26 "PulseSigns$Rests" "length" "I", .static yX6_within, .initialized RX6, .code yX6_within cX6_within 3 (some .boolean)] ++ wsX20)
def wsX2_readAll : List Cond := .code yX2_readAll cX2_readAll 3 none :: ([.fieldLink RX2 26 "PulseSigns$Rests" "length" "I", .fieldLink RX2 15 "PulseSigns$Rests" "readings" "[I", .fieldLink RX2 11 "PulseSigns$Rests" "periods" "[I"] ++ wsX20)
def wsX2_isNear : List Cond := .code yX2_isNear cX2_isNear 5 (some .boolean) :: ([.fieldLink RX2 15 "PulseSigns$Rests" "readings" "[I", .fieldLink RX2 11 "PulseSigns$Rests" "periods" "[I", .methodLink RX2 30 Lib.Math.abs.name, .static Lib.Math.abs.name, .initialized "java/lang/Math", .code Lib.Math.abs.name Lib.Math.abs.code 1 (some .int), .methodLink RX2 36 Lib.Math.min.name, .static Lib.Math.min.name, .code Lib.Math.min.name Lib.Math.min.code 2 (some .int)] ++ wsX20)
def wsX2_fits : List Cond := .code yX2_fits cX2_fits 6 (some .boolean) :: ([.fieldLink RX2 26 "PulseSigns$Rests" "length" "I", .methodLink RX2 40 yX2_isNear, .instanceMethod yX2_isNear, .selects RX2 yX2_isNear yX2_isNear, .initialized RX2, .code yX2_isNear cX2_isNear 5 (some .boolean), .fieldLink RX2 15 "PulseSigns$Rests" "readings" "[I", .fieldLink RX2 11 "PulseSigns$Rests" "periods" "[I", .methodLink RX2 30 Lib.Math.abs.name, .static Lib.Math.abs.name, .initialized "java/lang/Math", .code Lib.Math.abs.name Lib.Math.abs.code 1 (some .int), .methodLink RX2 36 Lib.Math.min.name, .static Lib.Math.min.name, .code Lib.Math.min.name Lib.Math.min.code 2 (some .int)] ++ wsX20)
def wsX2_fitting : List Cond := .code yX2_fitting cX2_fitting 6 (some .int) :: ([.methodLink RX2 43 yX2_fits, .instanceMethod yX2_fits, .selects RX2 yX2_fits yX2_fits, .initialized RX2, .code yX2_fits cX2_fits 6 (some .boolean), .fieldLink RX2 26 "PulseSigns$Rests" "length" "I", .methodLink RX2 40 yX2_isNear, .instanceMethod yX2_isNear, .selects RX2 yX2_isNear yX2_isNear, .code yX2_isNear cX2_isNear 5 (some .boolean), .fieldLink RX2 15 "PulseSigns$Rests" "readings" "[I", .fieldLink RX2 11 "PulseSigns$Rests" "periods" "[I", .methodLink RX2 30 Lib.Math.abs.name, .static Lib.Math.abs.name, .initialized "java/lang/Math", .code Lib.Math.abs.name Lib.Math.abs.code 1 (some .int), .methodLink RX2 36 Lib.Math.min.name, .static Lib.Math.min.name, .code Lib.Math.min.name Lib.Math.min.code 2 (some .int)] ++ wsX20)
def wsX2_fittingAt : List Cond := .code yX2_fittingAt cX2_fittingAt 7 (some .int) :: ([.methodLink RX2 43 yX2_fits, .instanceMethod yX2_fits, .selects RX2 yX2_fits yX2_fits, .initialized RX2, .code yX2_fits cX2_fits 6 (some .boolean), .fieldLink RX2 26 "PulseSigns$Rests" "length" "I", .methodLink RX2 40 yX2_isNear, .instanceMethod yX2_isNear, .selects RX2 yX2_isNear yX2_isNear, .code yX2_isNear cX2_isNear 5 (some .boolean), .fieldLink RX2 15 "PulseSigns$Rests" "readings" "[I", .fieldLink RX2 11 "PulseSigns$Rests" "periods" "[I", .methodLink RX2 30 Lib.Math.abs.name, .static Lib.Math.abs.name, .initialized "java/lang/Math", .code Lib.Math.abs.name Lib.Math.abs.code 1 (some .int), .methodLink RX2 36 Lib.Math.min.name, .static Lib.Math.min.name, .code Lib.Math.min.name Lib.Math.min.code 2 (some .int)] ++ wsX20)
def wsX6_commonDivisor : List Cond := .code yX6_commonDivisor cX6_commonDivisor 11 (some .long) :: ([])
def wsX2_leastCommon : List Cond := .code yX2_leastCommon cX2_leastCommon 3 (some .int) :: ([.fieldLink RX2 26 "PulseSigns$Rests" "length" "I", .fieldLink RX2 11 "PulseSigns$Rests" "periods" "[I", .static yX6_commonDivisor, .initialized RX6, .code yX6_commonDivisor cX6_commonDivisor 11 (some .long)] ++ wsX20)
def wsX2_unseen : List Cond := .code yX2_unseen cX2_unseen 7 (some .int) :: ([.fieldLink RX2 11 "PulseSigns$Rests" "periods" "[I", .static yX6_commonDivisor, .initialized RX6, .code yX6_commonDivisor cX6_commonDivisor 11 (some .long)] ++ wsX20)
def wsX3_init : List Cond := .code yX3_init cX3_init 1 none :: ([.methodLink RX3 1 objectInit, .instanceMethod objectInit, .code objectInit ⟨#[0xb1]⟩ 1 none, .arrayClass .int, .fieldLink RX3 9 "PulseSigns$Row" "numbers" "[I", .fieldLink RX3 13 "PulseSigns$Row" "length" "I", .fieldLink RX3 17 "PulseSigns$Row" "ordered" "[I"] ++ wsX30)
def wsX3_maySeek : List Cond := .code yX3_maySeek cX3_maySeek 4 (some .boolean) :: ([.static yX6_within, .initialized RX6, .code yX6_within cX6_within 3 (some .boolean)])
def wsX3_append : List Cond := .code yX3_append cX3_append 2 (some .boolean) :: ([.fieldLink RX3 13 "PulseSigns$Row" "length" "I", .fieldLink RX3 9 "PulseSigns$Row" "numbers" "[I"] ++ wsX30)
def wsX3_insert : List Cond := .code yX3_insert cX3_insert 4 none :: ([.fieldLink RX3 17 "PulseSigns$Row" "ordered" "[I"] ++ wsX30)
def wsX3_orderNeighbours : List Cond := .code yX3_orderNeighbours cX3_orderNeighbours 6 (some .int) :: ([.fieldLink RX3 9 "PulseSigns$Row" "numbers" "[I", .fieldLink RX3 13 "PulseSigns$Row" "length" "I", .methodLink RX3 34 yX3_insert, .instanceMethod yX3_insert, .selects RX3 yX3_insert yX3_insert, .initialized RX3, .code yX3_insert cX3_insert 4 none, .fieldLink RX3 17 "PulseSigns$Row" "ordered" "[I"] ++ wsX30)
def wsX3_standsOut : List Cond := .code yX3_standsOut cX3_standsOut 7 (some .boolean) :: ([.fieldLink RX3 9 "PulseSigns$Row" "numbers" "[I", .fieldLink RX3 17 "PulseSigns$Row" "ordered" "[I", .methodLink RX3 26 yX3_orderNeighbours, .instanceMethod yX3_orderNeighbours, .selects RX3 yX3_orderNeighbours yX3_orderNeighbours, .initialized RX3, .code yX3_orderNeighbours cX3_orderNeighbours 6 (some .int), .fieldLink RX3 13 "PulseSigns$Row" "length" "I", .methodLink RX3 34 yX3_insert, .instanceMethod yX3_insert, .selects RX3 yX3_insert yX3_insert, .code yX3_insert cX3_insert 4 none] ++ wsX30)
def wsX3_standingOut : List Cond := .code yX3_standingOut cX3_standingOut 7 (some .int) :: ([.fieldLink RX3 13 "PulseSigns$Row" "length" "I", .methodLink RX3 30 yX3_standsOut, .instanceMethod yX3_standsOut, .selects RX3 yX3_standsOut yX3_standsOut, .initialized RX3, .code yX3_standsOut cX3_standsOut 7 (some .boolean), .fieldLink RX3 9 "PulseSigns$Row" "numbers" "[I", .fieldLink RX3 17 "PulseSigns$Row" "ordered" "[I", .methodLink RX3 26 yX3_orderNeighbours, .instanceMethod yX3_orderNeighbours, .selects RX3 yX3_orderNeighbours yX3_orderNeighbours, .code yX3_orderNeighbours cX3_orderNeighbours 6 (some .int), .methodLink RX3 34 yX3_insert, .instanceMethod yX3_insert, .selects RX3 yX3_insert yX3_insert, .code yX3_insert cX3_insert 4 none] ++ wsX30)
def wsJ6_bitCount_0f7a4 : List Cond := .code yJ6_bitCount_0f7a4 cJ6_bitCount_0f7a4 1 (some .int) :: ([.constant RJ6 265 (1431655765), .constant RJ6 266 (858993459), .constant RJ6 267 (252645135)])
def wsX4_side : List Cond := .code yX4_side cX4_side 6 (some .int) :: ([.methodLink RX4 25 yJ6_bitCount_0f7a4, .static yJ6_bitCount_0f7a4, .initialized RJ6, .code yJ6_bitCount_0f7a4 cJ6_bitCount_0f7a4 1 (some .int), .constant RJ6 265 (1431655765), .constant RJ6 266 (858993459), .constant RJ6 267 (252645135)])
def wsX4_peakOf : List Cond := .code yX4_peakOf cX4_peakOf 5 (some .int) :: ([.methodLink RX4 20 Lib.Math.max.name, .static Lib.Math.max.name, .initialized "java/lang/Math", .code Lib.Math.max.name Lib.Math.max.code 2 (some .int), .methodLink RX4 17 yX4_side, .static yX4_side, .initialized RX4, .code yX4_side cX4_side 6 (some .int), .methodLink RX4 25 yJ6_bitCount_0f7a4, .static yJ6_bitCount_0f7a4, .initialized RJ6, .code yJ6_bitCount_0f7a4 cJ6_bitCount_0f7a4 1 (some .int), .constant RJ6 265 (1431655765), .constant RJ6 266 (858993459), .constant RJ6 267 (252645135)])
def wsX4_flankOf : List Cond := .code yX4_flankOf cX4_flankOf 4 (some .int) :: ([.methodLink RX4 17 yX4_side, .static yX4_side, .initialized RX4, .code yX4_side cX4_side 6 (some .int), .methodLink RX4 25 yJ6_bitCount_0f7a4, .static yJ6_bitCount_0f7a4, .initialized RJ6, .code yJ6_bitCount_0f7a4 cJ6_bitCount_0f7a4 1 (some .int), .constant RJ6 265 (1431655765), .constant RJ6 266 (858993459), .constant RJ6 267 (252645135)])
def wsX4_leastSided : List Cond := .code yX4_leastSided cX4_leastSided 8 (some .int) :: ([.methodLink RX4 7 yX4_peakOf, .static yX4_peakOf, .initialized RX4, .code yX4_peakOf cX4_peakOf 5 (some .int), .methodLink RX4 20 Lib.Math.max.name, .static Lib.Math.max.name, .initialized "java/lang/Math", .code Lib.Math.max.name Lib.Math.max.code 2 (some .int), .methodLink RX4 17 yX4_side, .static yX4_side, .code yX4_side cX4_side 6 (some .int), .methodLink RX4 25 yJ6_bitCount_0f7a4, .static yJ6_bitCount_0f7a4, .initialized RJ6, .code yJ6_bitCount_0f7a4 cJ6_bitCount_0f7a4 1 (some .int), .constant RJ6 265 (1431655765), .constant RJ6 266 (858993459), .constant RJ6 267 (252645135), .methodLink RX4 13 yX4_flankOf, .static yX4_flankOf, .code yX4_flankOf cX4_flankOf 4 (some .int)])
def wsX5_init : List Cond := .code yX5_init cX5_init 1 none :: ([.methodLink RX5 1 objectInit, .instanceMethod objectInit, .code objectInit ⟨#[0xb1]⟩ 1 none, .arrayClass .int, .fieldLink RX5 9 "PulseSigns$Sign" "turns" "[I", .fieldLink RX5 13 "PulseSigns$Sign" "length" "I"] ++ wsX50)
def wsX5_reset : List Cond := .code yX5_reset cX5_reset 3 none :: ([.fieldLink RX5 13 "PulseSigns$Sign" "length" "I", .fieldLink RX5 9 "PulseSigns$Sign" "turns" "[I"] ++ wsX50)
def wsX5_copy : List Cond := .code yX5_copy cX5_copy 3 none :: ([.fieldLink RX5 13 "PulseSigns$Sign" "length" "I", .fieldLink RX5 9 "PulseSigns$Sign" "turns" "[I"] ++ wsX50)
def wsX5_reverse : List Cond := .code yX5_reverse cX5_reverse 3 none :: ([.fieldLink RX5 13 "PulseSigns$Sign" "length" "I", .fieldLink RX5 9 "PulseSigns$Sign" "turns" "[I"] ++ wsX50)
def wsX5_mirror : List Cond := .code yX5_mirror cX5_mirror 2 none :: ([.fieldLink RX5 13 "PulseSigns$Sign" "length" "I", .fieldLink RX5 9 "PulseSigns$Sign" "turns" "[I"] ++ wsX50)
def wsX5_advance : List Cond := .code yX5_advance cX5_advance 2 none :: ([.fieldLink RX5 13 "PulseSigns$Sign" "length" "I", .fieldLink RX5 9 "PulseSigns$Sign" "turns" "[I"] ++ wsX50)
def wsX5_takeBits : List Cond := .code yX5_takeBits cX5_takeBits 4 none :: ([.fieldLink RX5 13 "PulseSigns$Sign" "length" "I", .fieldLink RX5 9 "PulseSigns$Sign" "turns" "[I"] ++ wsX50)
def wsX5_lookPart : List Cond := .code yX5_lookPart cX5_lookPart 7 (some .int) :: ([.fieldLink RX5 13 "PulseSigns$Sign" "length" "I", .fieldLink RX5 9 "PulseSigns$Sign" "turns" "[I", .methodLink RX5 23 yX5_has, .instanceMethod yX5_has, .selects RX5 yX5_has yX5_has, .initialized RX5, .code yX5_has cX5_has 2 (some .boolean), .static yX6_within, .initialized RX6, .code yX6_within cX6_within 3 (some .boolean), .static yX6_partOfTurn, .code yX6_partOfTurn cX6_partOfTurn 3 (some .int)] ++ wsX50)
def wsX5_ownLookSize : List Cond := .code yX5_ownLookSize cX5_ownLookSize 5 (some .int) :: ([.methodLink RX5 31 yX5_lookPart, .instanceMethod yX5_lookPart, .selects RX5 yX5_lookPart yX5_lookPart, .initialized RX5, .code yX5_lookPart cX5_lookPart 7 (some .int), .fieldLink RX5 13 "PulseSigns$Sign" "length" "I", .fieldLink RX5 9 "PulseSigns$Sign" "turns" "[I", .methodLink RX5 23 yX5_has, .instanceMethod yX5_has, .selects RX5 yX5_has yX5_has, .code yX5_has cX5_has 2 (some .boolean), .static yX6_within, .initialized RX6, .code yX6_within cX6_within 3 (some .boolean), .static yX6_partOfTurn, .code yX6_partOfTurn cX6_partOfTurn 3 (some .int)] ++ wsX50)
def wsX5_greatestSide : List Cond := .code yX5_greatestSide cX5_greatestSide 3 (some .int) :: ([.fieldLink RX5 13 "PulseSigns$Sign" "length" "I", .methodLink RX5 38 Lib.Math.max.name, .static Lib.Math.max.name, .initialized "java/lang/Math", .code Lib.Math.max.name Lib.Math.max.code 2 (some .int), .methodLink RX5 35 yX5_ownLookSize, .instanceMethod yX5_ownLookSize, .selects RX5 yX5_ownLookSize yX5_ownLookSize, .initialized RX5, .code yX5_ownLookSize cX5_ownLookSize 5 (some .int), .methodLink RX5 31 yX5_lookPart, .instanceMethod yX5_lookPart, .selects RX5 yX5_lookPart yX5_lookPart, .code yX5_lookPart cX5_lookPart 7 (some .int), .fieldLink RX5 9 "PulseSigns$Sign" "turns" "[I", .methodLink RX5 23 yX5_has, .instanceMethod yX5_has, .selects RX5 yX5_has yX5_has, .code yX5_has cX5_has 2 (some .boolean), .static yX6_within, .initialized RX6, .code yX6_within cX6_within 3 (some .boolean), .static yX6_partOfTurn, .code yX6_partOfTurn cX6_partOfTurn 3 (some .int)] ++ wsX50)
def wsX5_sumOfSides : List Cond := .code yX5_sumOfSides cX5_sumOfSides 3 (some .int) :: ([.fieldLink RX5 13 "PulseSigns$Sign" "length" "I", .methodLink RX5 35 yX5_ownLookSize, .instanceMethod yX5_ownLookSize, .selects RX5 yX5_ownLookSize yX5_ownLookSize, .initialized RX5, .code yX5_ownLookSize cX5_ownLookSize 5 (some .int), .methodLink RX5 31 yX5_lookPart, .instanceMethod yX5_lookPart, .selects RX5 yX5_lookPart yX5_lookPart, .code yX5_lookPart cX5_lookPart 7 (some .int), .fieldLink RX5 9 "PulseSigns$Sign" "turns" "[I", .methodLink RX5 23 yX5_has, .instanceMethod yX5_has, .selects RX5 yX5_has yX5_has, .code yX5_has cX5_has 2 (some .boolean), .static yX6_within, .initialized RX6, .code yX6_within cX6_within 3 (some .boolean), .static yX6_partOfTurn, .code yX6_partOfTurn cX6_partOfTurn 3 (some .int)] ++ wsX50)
def wsX5_greatestOwnLook : List Cond := .code yX5_greatestOwnLook cX5_greatestOwnLook 4 (some .int) :: ([.methodLink RX5 38 Lib.Math.max.name, .static Lib.Math.max.name, .initialized "java/lang/Math", .code Lib.Math.max.name Lib.Math.max.code 2 (some .int), .methodLink RX5 35 yX5_ownLookSize, .instanceMethod yX5_ownLookSize, .selects RX5 yX5_ownLookSize yX5_ownLookSize, .initialized RX5, .code yX5_ownLookSize cX5_ownLookSize 5 (some .int), .methodLink RX5 31 yX5_lookPart, .instanceMethod yX5_lookPart, .selects RX5 yX5_lookPart yX5_lookPart, .code yX5_lookPart cX5_lookPart 7 (some .int), .fieldLink RX5 13 "PulseSigns$Sign" "length" "I", .fieldLink RX5 9 "PulseSigns$Sign" "turns" "[I", .methodLink RX5 23 yX5_has, .instanceMethod yX5_has, .selects RX5 yX5_has yX5_has, .code yX5_has cX5_has 2 (some .boolean), .static yX6_within, .initialized RX6, .code yX6_within cX6_within 3 (some .boolean), .static yX6_partOfTurn, .code yX6_partOfTurn cX6_partOfTurn 3 (some .int)] ++ wsX50)
def wsX5_sidesGoOutWith : List Cond := .code yX5_sidesGoOutWith cX5_sidesGoOutWith 4 (some .boolean) :: ([.fieldLink RX5 13 "PulseSigns$Sign" "length" "I", .methodLink RX5 31 yX5_lookPart, .instanceMethod yX5_lookPart, .selects RX5 yX5_lookPart yX5_lookPart, .initialized RX5, .code yX5_lookPart cX5_lookPart 7 (some .int), .fieldLink RX5 9 "PulseSigns$Sign" "turns" "[I", .methodLink RX5 23 yX5_has, .instanceMethod yX5_has, .selects RX5 yX5_has yX5_has, .code yX5_has cX5_has 2 (some .boolean), .static yX6_within, .initialized RX6, .code yX6_within cX6_within 3 (some .boolean), .static yX6_partOfTurn, .code yX6_partOfTurn cX6_partOfTurn 3 (some .int)] ++ wsX50)
def wsX6_init_r1 : List Cond := [Cond.methodLink RX6 1 objectInit, Cond.instanceMethod objectInit, Cond.code objectInit ⟨#[0xb1]⟩ 1 none, Cond.classLink RX6 9 RX5, Cond.fieldLink RX6 11 "PulseSigns" "signs" "[LPulseSigns$Sign;", Cond.classLink RX6 15 RX1, Cond.instantiable RX1 2, Cond.initialized RX1, Cond.fieldLink RX6 18 "PulseSigns" "sieve" "LPulseSigns$Filter;", Cond.classLink RX6 22 RX2, Cond.instantiable RX2 3, Cond.initialized RX2, Cond.fieldLink RX6 25 "PulseSigns" "ways" "LPulseSigns$Rests;", Cond.classLink RX6 29 RX3, Cond.instantiable RX3 3, Cond.initialized RX3, Cond.fieldLink RX6 32 "PulseSigns" "line" "LPulseSigns$Row;", Cond.fieldLink RX6 36 "PulseSigns" "searches" "I", Cond.instantiable RX5 2, Cond.initialized RX5, Cond.methodLink RX6 17 yX1_init, Cond.instanceMethod yX1_init, Cond.code yX1_init cX1_init 1 none, Cond.methodLink RX1 1 objectInit]
def wsX6_init_r2 : List Cond := [Cond.arrayClass .int, Cond.fieldLink RX1 9 "PulseSigns$Filter" "numbers" "[I", Cond.fieldLink RX1 13 "PulseSigns$Filter" "length" "I", Cond.methodLink RX6 24 yX2_init, Cond.instanceMethod yX2_init, Cond.code yX2_init cX2_init 1 none, Cond.methodLink RX2 3 objectInit, Cond.fieldLink RX2 11 "PulseSigns$Rests" "periods" "[I", Cond.fieldLink RX2 15 "PulseSigns$Rests" "readings" "[I", Cond.methodLink RX2 18 yX2_reset, Cond.instanceMethod yX2_reset, Cond.selects RX2 yX2_reset yX2_reset, Cond.code yX2_reset cX2_reset 3 none, Cond.fieldLink RX2 26 "PulseSigns$Rests" "length" "I", Cond.instanceMethod yX3_init, Cond.code yX3_init cX3_init 1 none, Cond.methodLink RX3 1 objectInit, Cond.fieldLink RX3 9 "PulseSigns$Row" "numbers" "[I", Cond.fieldLink RX3 13 "PulseSigns$Row" "length" "I", Cond.fieldLink RX3 17 "PulseSigns$Row" "ordered" "[I", Cond.instanceMethod yX5_init, Cond.code yX5_init cX5_init 1 none, Cond.methodLink RX5 1 objectInit, Cond.fieldLink RX5 9 "PulseSigns$Sign" "turns" "[I"]
def wsX6_init_r3 : List Cond := [Cond.fieldLink RX5 13 "PulseSigns$Sign" "length" "I"]
def wsX6_init : List Cond := .code yX6_init cX6_init 2 none :: ((wsX6_init_r1 ++ (wsX6_init_r2 ++ wsX6_init_r3)) ++ wsX60 ++ wsX10 ++ wsX20 ++ wsX30 ++ wsX50)
def wsX6_isSign : List Cond := .code yX6_isSign cX6_isSign 1 (some .boolean) :: ([.methodLink RX6 45 yX6_within, .static yX6_within, .initialized RX6, .code yX6_within cX6_within 3 (some .boolean)])
def wsX6_size : List Cond := .code yX6_size cX6_size 3 (some .int) :: ([.fieldLink RX6 11 "PulseSigns" "signs" "[LPulseSigns$Sign;", .methodLink RX6 41 yX6_isSign, .static yX6_isSign, .initialized RX6, .code yX6_isSign cX6_isSign 1 (some .boolean), .methodLink RX6 45 yX6_within, .static yX6_within, .code yX6_within cX6_within 3 (some .boolean), .methodLink RX6 49 yX5_reset, .instanceMethod yX5_reset, .selects RX5 yX5_reset yX5_reset, .initialized RX5, .code yX5_reset cX5_reset 3 none, .fieldLink RX5 13 "PulseSigns$Sign" "length" "I", .fieldLink RX5 9 "PulseSigns$Sign" "turns" "[I"] ++ wsX60 ++ wsX50)
def wsX6_turn : List Cond := .code yX6_turn cX6_turn 5 (some .int) :: ([.fieldLink RX6 11 "PulseSigns" "signs" "[LPulseSigns$Sign;", .fieldLink RX6 56 "PulseSigns$Sign" "turns" "[I", .methodLink RX6 41 yX6_isSign, .static yX6_isSign, .initialized RX6, .code yX6_isSign cX6_isSign 1 (some .boolean), .methodLink RX6 45 yX6_within, .static yX6_within, .code yX6_within cX6_within 3 (some .boolean), .methodLink RX6 53 yX5_has, .instanceMethod yX5_has, .selects RX5 yX5_has yX5_has, .initialized RX5, .code yX5_has cX5_has 2 (some .boolean), .fieldLink RX5 13 "PulseSigns$Sign" "length" "I"] ++ wsX60 ++ wsX50)
def wsX6_turned : List Cond := .code yX6_turned cX6_turned 3 (some .int) :: ([.fieldLink RX6 11 "PulseSigns" "signs" "[LPulseSigns$Sign;", .fieldLink RX6 56 "PulseSigns$Sign" "turns" "[I", .methodLink RX6 41 yX6_isSign, .static yX6_isSign, .initialized RX6, .code yX6_isSign cX6_isSign 1 (some .boolean), .methodLink RX6 45 yX6_within, .static yX6_within, .code yX6_within cX6_within 3 (some .boolean), .methodLink RX6 53 yX5_has, .instanceMethod yX5_has, .selects RX5 yX5_has yX5_has, .initialized RX5, .code yX5_has cX5_has 2 (some .boolean), .fieldLink RX5 13 "PulseSigns$Sign" "length" "I"] ++ wsX60 ++ wsX50)
def wsX6_made_r1 : List Cond := [Cond.fieldLink RX6 11 "PulseSigns" "signs" "[LPulseSigns$Sign;", Cond.fieldLink RX6 73 "PulseSigns$Sign" "length" "I", Cond.methodLink RX6 41 yX6_isSign, Cond.static yX6_isSign, Cond.initialized RX6, Cond.code yX6_isSign cX6_isSign 1 (some .boolean), Cond.methodLink RX6 45 yX6_within, Cond.static yX6_within, Cond.code yX6_within cX6_within 3 (some .boolean), Cond.methodLink RX6 60 yX5_copy, Cond.instanceMethod yX5_copy, Cond.selects RX5 yX5_copy yX5_copy, Cond.initialized RX5, Cond.code yX5_copy cX5_copy 3 none, Cond.fieldLink RX5 13 "PulseSigns$Sign" "length" "I", Cond.fieldLink RX5 9 "PulseSigns$Sign" "turns" "[I", Cond.methodLink RX6 64 yX5_reverse, Cond.instanceMethod yX5_reverse, Cond.selects RX5 yX5_reverse yX5_reverse, Cond.code yX5_reverse cX5_reverse 3 none, Cond.methodLink RX6 67 yX5_mirror, Cond.instanceMethod yX5_mirror, Cond.selects RX5 yX5_mirror yX5_mirror, Cond.code yX5_mirror cX5_mirror 2 none]
def wsX6_made_r2 : List Cond := [Cond.methodLink RX6 70 yX5_advance, Cond.instanceMethod yX5_advance, Cond.selects RX5 yX5_advance yX5_advance, Cond.code yX5_advance cX5_advance 2 none]
def wsX6_made : List Cond := .code yX6_made cX6_made 5 (some .int) :: ((wsX6_made_r1 ++ wsX6_made_r2) ++ wsX60 ++ wsX50)
def wsX6_isPart : List Cond := .code yX6_isPart cX6_isPart 1 (some .boolean) :: ([.methodLink RX6 45 yX6_within, .static yX6_within, .initialized RX6, .code yX6_within cX6_within 3 (some .boolean)])
def wsX6_look : List Cond := .code yX6_look cX6_look 6 (some .int) :: ([.fieldLink RX6 11 "PulseSigns" "signs" "[LPulseSigns$Sign;", .methodLink RX6 41 yX6_isSign, .static yX6_isSign, .initialized RX6, .code yX6_isSign cX6_isSign 1 (some .boolean), .methodLink RX6 45 yX6_within, .static yX6_within, .code yX6_within cX6_within 3 (some .boolean), .methodLink RX6 76 yX6_isPart, .static yX6_isPart, .code yX6_isPart cX6_isPart 1 (some .boolean), .methodLink RX6 79 yX5_lookPart, .instanceMethod yX5_lookPart, .selects RX5 yX5_lookPart yX5_lookPart, .initialized RX5, .code yX5_lookPart cX5_lookPart 7 (some .int), .fieldLink RX5 13 "PulseSigns$Sign" "length" "I", .fieldLink RX5 9 "PulseSigns$Sign" "turns" "[I", .methodLink RX5 23 yX5_has, .instanceMethod yX5_has, .selects RX5 yX5_has yX5_has, .code yX5_has cX5_has 2 (some .boolean), .static yX6_partOfTurn, .code yX6_partOfTurn cX6_partOfTurn 3 (some .int)] ++ wsX60 ++ wsX50)
def wsX6_peak_r1 : List Cond := [Cond.fieldLink RX6 11 "PulseSigns" "signs" "[LPulseSigns$Sign;", Cond.methodLink RX6 41 yX6_isSign, Cond.static yX6_isSign, Cond.initialized RX6, Cond.code yX6_isSign cX6_isSign 1 (some .boolean), Cond.methodLink RX6 45 yX6_within, Cond.static yX6_within, Cond.code yX6_within cX6_within 3 (some .boolean), Cond.methodLink RX6 83 yX5_greatestSide, Cond.instanceMethod yX5_greatestSide, Cond.selects RX5 yX5_greatestSide yX5_greatestSide, Cond.initialized RX5, Cond.code yX5_greatestSide cX5_greatestSide 3 (some .int), Cond.fieldLink RX5 13 "PulseSigns$Sign" "length" "I", Cond.methodLink RX5 38 Lib.Math.max.name, Cond.static Lib.Math.max.name, Cond.initialized "java/lang/Math", Cond.code Lib.Math.max.name Lib.Math.max.code 2 (some .int), Cond.methodLink RX5 35 yX5_ownLookSize, Cond.instanceMethod yX5_ownLookSize, Cond.selects RX5 yX5_ownLookSize yX5_ownLookSize, Cond.code yX5_ownLookSize cX5_ownLookSize 5 (some .int), Cond.methodLink RX5 31 yX5_lookPart, Cond.instanceMethod yX5_lookPart]
def wsX6_peak_r2 : List Cond := [Cond.selects RX5 yX5_lookPart yX5_lookPart, Cond.code yX5_lookPart cX5_lookPart 7 (some .int), Cond.fieldLink RX5 9 "PulseSigns$Sign" "turns" "[I", Cond.methodLink RX5 23 yX5_has, Cond.instanceMethod yX5_has, Cond.selects RX5 yX5_has yX5_has, Cond.code yX5_has cX5_has 2 (some .boolean), Cond.static yX6_partOfTurn, Cond.code yX6_partOfTurn cX6_partOfTurn 3 (some .int)]
def wsX6_peak : List Cond := .code yX6_peak cX6_peak 2 (some .int) :: ((wsX6_peak_r1 ++ wsX6_peak_r2) ++ wsX60 ++ wsX50)
def wsX6_flank_r1 : List Cond := [Cond.fieldLink RX6 11 "PulseSigns" "signs" "[LPulseSigns$Sign;", Cond.methodLink RX6 41 yX6_isSign, Cond.static yX6_isSign, Cond.initialized RX6, Cond.code yX6_isSign cX6_isSign 1 (some .boolean), Cond.methodLink RX6 45 yX6_within, Cond.static yX6_within, Cond.code yX6_within cX6_within 3 (some .boolean), Cond.methodLink RX6 87 yX5_sumOfSides, Cond.instanceMethod yX5_sumOfSides, Cond.selects RX5 yX5_sumOfSides yX5_sumOfSides, Cond.initialized RX5, Cond.code yX5_sumOfSides cX5_sumOfSides 3 (some .int), Cond.fieldLink RX5 13 "PulseSigns$Sign" "length" "I", Cond.methodLink RX5 35 yX5_ownLookSize, Cond.instanceMethod yX5_ownLookSize, Cond.selects RX5 yX5_ownLookSize yX5_ownLookSize, Cond.code yX5_ownLookSize cX5_ownLookSize 5 (some .int), Cond.methodLink RX5 31 yX5_lookPart, Cond.instanceMethod yX5_lookPart, Cond.selects RX5 yX5_lookPart yX5_lookPart, Cond.code yX5_lookPart cX5_lookPart 7 (some .int), Cond.fieldLink RX5 9 "PulseSigns$Sign" "turns" "[I", Cond.methodLink RX5 23 yX5_has]
def wsX6_flank_r2 : List Cond := [Cond.instanceMethod yX5_has, Cond.selects RX5 yX5_has yX5_has, Cond.code yX5_has cX5_has 2 (some .boolean), Cond.static yX6_partOfTurn, Cond.code yX6_partOfTurn cX6_partOfTurn 3 (some .int)]
def wsX6_flank : List Cond := .code yX6_flank cX6_flank 2 (some .int) :: ((wsX6_flank_r1 ++ wsX6_flank_r2) ++ wsX60 ++ wsX50)
def wsX6_worst_r1 : List Cond := [Cond.fieldLink RX6 11 "PulseSigns" "signs" "[LPulseSigns$Sign;", Cond.methodLink RX6 41 yX6_isSign, Cond.static yX6_isSign, Cond.initialized RX6, Cond.code yX6_isSign cX6_isSign 1 (some .boolean), Cond.methodLink RX6 45 yX6_within, Cond.static yX6_within, Cond.code yX6_within cX6_within 3 (some .boolean), Cond.methodLink RX6 90 yX5_greatestOwnLook, Cond.instanceMethod yX5_greatestOwnLook, Cond.selects RX5 yX5_greatestOwnLook yX5_greatestOwnLook, Cond.initialized RX5, Cond.code yX5_greatestOwnLook cX5_greatestOwnLook 4 (some .int), Cond.methodLink RX5 38 Lib.Math.max.name, Cond.static Lib.Math.max.name, Cond.initialized "java/lang/Math", Cond.code Lib.Math.max.name Lib.Math.max.code 2 (some .int), Cond.methodLink RX5 35 yX5_ownLookSize, Cond.instanceMethod yX5_ownLookSize, Cond.selects RX5 yX5_ownLookSize yX5_ownLookSize, Cond.code yX5_ownLookSize cX5_ownLookSize 5 (some .int), Cond.methodLink RX5 31 yX5_lookPart, Cond.instanceMethod yX5_lookPart, Cond.selects RX5 yX5_lookPart yX5_lookPart]
def wsX6_worst_r2 : List Cond := [Cond.code yX5_lookPart cX5_lookPart 7 (some .int), Cond.fieldLink RX5 13 "PulseSigns$Sign" "length" "I", Cond.fieldLink RX5 9 "PulseSigns$Sign" "turns" "[I", Cond.methodLink RX5 23 yX5_has, Cond.instanceMethod yX5_has, Cond.selects RX5 yX5_has yX5_has, Cond.code yX5_has cX5_has 2 (some .boolean), Cond.static yX6_partOfTurn, Cond.code yX6_partOfTurn cX6_partOfTurn 3 (some .int)]
def wsX6_worst : List Cond := .code yX6_worst cX6_worst 2 (some .int) :: ((wsX6_worst_r1 ++ wsX6_worst_r2) ++ wsX60 ++ wsX50)
def wsX6_best_r1 : List Cond := [Cond.fieldLink RX6 36 "PulseSigns" "searches" "I", Cond.fieldLink RX6 11 "PulseSigns" "signs" "[LPulseSigns$Sign;", Cond.methodLink RX6 41 yX6_isSign, Cond.static yX6_isSign, Cond.initialized RX6, Cond.code yX6_isSign cX6_isSign 1 (some .boolean), Cond.methodLink RX6 45 yX6_within, Cond.static yX6_within, Cond.code yX6_within cX6_within 3 (some .boolean), Cond.methodLink RX6 93 yX4_leastSided, Cond.static yX4_leastSided, Cond.initialized RX4, Cond.code yX4_leastSided cX4_leastSided 8 (some .int), Cond.methodLink RX4 7 yX4_peakOf, Cond.static yX4_peakOf, Cond.code yX4_peakOf cX4_peakOf 5 (some .int), Cond.methodLink RX4 20 Lib.Math.max.name, Cond.static Lib.Math.max.name, Cond.initialized "java/lang/Math", Cond.code Lib.Math.max.name Lib.Math.max.code 2 (some .int), Cond.methodLink RX4 17 yX4_side, Cond.static yX4_side, Cond.code yX4_side cX4_side 6 (some .int), Cond.methodLink RX4 25 yJ6_bitCount_0f7a4]
def wsX6_best_r2 : List Cond := [Cond.static yJ6_bitCount_0f7a4, Cond.initialized RJ6, Cond.code yJ6_bitCount_0f7a4 cJ6_bitCount_0f7a4 1 (some .int), Cond.constant RJ6 265 (1431655765), Cond.constant RJ6 266 (858993459), Cond.constant RJ6 267 (252645135), Cond.methodLink RX4 13 yX4_flankOf, Cond.static yX4_flankOf, Cond.code yX4_flankOf cX4_flankOf 4 (some .int), Cond.methodLink RX6 99 yX5_takeBits, Cond.instanceMethod yX5_takeBits, Cond.selects RX5 yX5_takeBits yX5_takeBits, Cond.initialized RX5, Cond.code yX5_takeBits cX5_takeBits 4 none, Cond.fieldLink RX5 13 "PulseSigns$Sign" "length" "I", Cond.fieldLink RX5 9 "PulseSigns$Sign" "turns" "[I", Cond.methodLink RX6 83 yX5_greatestSide, Cond.instanceMethod yX5_greatestSide, Cond.selects RX5 yX5_greatestSide yX5_greatestSide, Cond.code yX5_greatestSide cX5_greatestSide 3 (some .int), Cond.methodLink RX5 38 Lib.Math.max.name, Cond.methodLink RX5 35 yX5_ownLookSize, Cond.instanceMethod yX5_ownLookSize, Cond.selects RX5 yX5_ownLookSize yX5_ownLookSize]
def wsX6_best_r3 : List Cond := [Cond.code yX5_ownLookSize cX5_ownLookSize 5 (some .int), Cond.methodLink RX5 31 yX5_lookPart, Cond.instanceMethod yX5_lookPart, Cond.selects RX5 yX5_lookPart yX5_lookPart, Cond.code yX5_lookPart cX5_lookPart 7 (some .int), Cond.methodLink RX5 23 yX5_has, Cond.instanceMethod yX5_has, Cond.selects RX5 yX5_has yX5_has, Cond.code yX5_has cX5_has 2 (some .boolean), Cond.static yX6_partOfTurn, Cond.code yX6_partOfTurn cX6_partOfTurn 3 (some .int)]
def wsX6_best : List Cond := .code yX6_best cX6_best 3 (some .int) :: ((wsX6_best_r1 ++ (wsX6_best_r2 ++ wsX6_best_r3)) ++ wsX60 ++ wsX50)
def wsX6_pair_r1 : List Cond := [Cond.fieldLink RX6 11 "PulseSigns" "signs" "[LPulseSigns$Sign;", Cond.methodLink RX6 41 yX6_isSign, Cond.static yX6_isSign, Cond.initialized RX6, Cond.code yX6_isSign cX6_isSign 1 (some .boolean), Cond.methodLink RX6 45 yX6_within, Cond.static yX6_within, Cond.code yX6_within cX6_within 3 (some .boolean), Cond.methodLink RX6 103 yX5_sidesGoOutWith, Cond.instanceMethod yX5_sidesGoOutWith, Cond.selects RX5 yX5_sidesGoOutWith yX5_sidesGoOutWith, Cond.initialized RX5, Cond.code yX5_sidesGoOutWith cX5_sidesGoOutWith 4 (some .boolean), Cond.fieldLink RX5 13 "PulseSigns$Sign" "length" "I", Cond.methodLink RX5 31 yX5_lookPart, Cond.instanceMethod yX5_lookPart, Cond.selects RX5 yX5_lookPart yX5_lookPart, Cond.code yX5_lookPart cX5_lookPart 7 (some .int), Cond.fieldLink RX5 9 "PulseSigns$Sign" "turns" "[I", Cond.methodLink RX5 23 yX5_has, Cond.instanceMethod yX5_has, Cond.selects RX5 yX5_has yX5_has, Cond.code yX5_has cX5_has 2 (some .boolean), Cond.static yX6_partOfTurn]
def wsX6_pair_r2 : List Cond := [Cond.code yX6_partOfTurn cX6_partOfTurn 3 (some .int)]
def wsX6_pair : List Cond := .code yX6_pair cX6_pair 3 (some .int) :: ((wsX6_pair_r1 ++ wsX6_pair_r2) ++ wsX60 ++ wsX50)
def wsX6_filter : List Cond := .code yX6_filter cX6_filter 2 (some .int) :: ([.fieldLink RX6 18 "PulseSigns" "sieve" "LPulseSigns$Filter;", .methodLink RX6 45 yX6_within, .static yX6_within, .initialized RX6, .code yX6_within cX6_within 3 (some .boolean), .methodLink RX6 107 yX1_reset, .instanceMethod yX1_reset, .selects RX1 yX1_reset yX1_reset, .initialized RX1, .code yX1_reset cX1_reset 3 none, .fieldLink RX1 13 "PulseSigns$Filter" "length" "I", .fieldLink RX1 9 "PulseSigns$Filter" "numbers" "[I"] ++ wsX60 ++ wsX10)
def wsX6_weight : List Cond := .code yX6_weight cX6_weight 4 (some .int) :: ([.fieldLink RX6 18 "PulseSigns" "sieve" "LPulseSigns$Filter;", .fieldLink RX6 108 "PulseSigns$Filter" "length" "I", .fieldLink RX6 109 "PulseSigns$Filter" "numbers" "[I", .methodLink RX6 45 yX6_within, .static yX6_within, .initialized RX6, .code yX6_within cX6_within 3 (some .boolean)] ++ wsX60 ++ wsX10)
def wsX6_own : List Cond := .code yX6_own cX6_own 2 (some .int) :: ([.fieldLink RX6 18 "PulseSigns" "sieve" "LPulseSigns$Filter;", .fieldLink RX6 11 "PulseSigns" "signs" "[LPulseSigns$Sign;", .fieldLink RX6 108 "PulseSigns$Filter" "length" "I", .methodLink RX6 41 yX6_isSign, .static yX6_isSign, .initialized RX6, .code yX6_isSign cX6_isSign 1 (some .boolean), .methodLink RX6 45 yX6_within, .static yX6_within, .code yX6_within cX6_within 3 (some .boolean), .methodLink RX6 112 yX1_matchTo, .instanceMethod yX1_matchTo, .selects RX1 yX1_matchTo yX1_matchTo, .initialized RX1, .code yX1_matchTo cX1_matchTo 3 none, .fieldLink RX1 17 "PulseSigns$Sign" "length" "I", .fieldLink RX1 13 "PulseSigns$Filter" "length" "I", .fieldLink RX1 9 "PulseSigns$Filter" "numbers" "[I", .fieldLink RX1 20 "PulseSigns$Sign" "turns" "[I", .static yX6_partOfTurn, .code yX6_partOfTurn cX6_partOfTurn 3 (some .int)] ++ wsX60 ++ wsX10 ++ wsX50)
def wsX6_answer_r1 : List Cond := [Cond.constant RX6 115 (-100000), Cond.constant RX6 116 (-100001), Cond.fieldLink RX6 18 "PulseSigns" "sieve" "LPulseSigns$Filter;", Cond.fieldLink RX6 11 "PulseSigns" "signs" "[LPulseSigns$Sign;", Cond.methodLink RX6 41 yX6_isSign, Cond.static yX6_isSign, Cond.initialized RX6, Cond.code yX6_isSign cX6_isSign 1 (some .boolean), Cond.methodLink RX6 45 yX6_within, Cond.static yX6_within, Cond.code yX6_within cX6_within 3 (some .boolean), Cond.methodLink RX6 76 yX6_isPart, Cond.static yX6_isPart, Cond.code yX6_isPart cX6_isPart 1 (some .boolean), Cond.methodLink RX6 117 yX1_answerPart, Cond.instanceMethod yX1_answerPart, Cond.selects RX1 yX1_answerPart yX1_answerPart, Cond.initialized RX1, Cond.code yX1_answerPart cX1_answerPart 6 (some .int), Cond.fieldLink RX1 13 "PulseSigns$Filter" "length" "I", Cond.fieldLink RX1 9 "PulseSigns$Filter" "numbers" "[I", Cond.fieldLink RX1 20 "PulseSigns$Sign" "turns" "[I", Cond.methodLink RX1 29 yX5_has, Cond.instanceMethod yX5_has]
def wsX6_answer_r2 : List Cond := [Cond.selects RX5 yX5_has yX5_has, Cond.initialized RX5, Cond.code yX5_has cX5_has 2 (some .boolean), Cond.fieldLink RX5 13 "PulseSigns$Sign" "length" "I", Cond.static yX6_partOfTurn, Cond.code yX6_partOfTurn cX6_partOfTurn 3 (some .int)]
def wsX6_answer : List Cond := .code yX6_answer cX6_answer 4 (some .int) :: ((wsX6_answer_r1 ++ wsX6_answer_r2) ++ wsX60 ++ wsX10 ++ wsX50)
def wsX6_greatest_r1 : List Cond := [Cond.fieldLink RX6 18 "PulseSigns" "sieve" "LPulseSigns$Filter;", Cond.fieldLink RX6 11 "PulseSigns" "signs" "[LPulseSigns$Sign;", Cond.methodLink RX6 41 yX6_isSign, Cond.static yX6_isSign, Cond.initialized RX6, Cond.code yX6_isSign cX6_isSign 1 (some .boolean), Cond.methodLink RX6 45 yX6_within, Cond.static yX6_within, Cond.code yX6_within cX6_within 3 (some .boolean), Cond.methodLink RX6 121 yX1_greatestPlace, Cond.instanceMethod yX1_greatestPlace, Cond.selects RX1 yX1_greatestPlace yX1_greatestPlace, Cond.initialized RX1, Cond.code yX1_greatestPlace cX1_greatestPlace 6 (some .int), Cond.fieldLink RX1 13 "PulseSigns$Filter" "length" "I", Cond.fieldLink RX1 17 "PulseSigns$Sign" "length" "I", Cond.methodLink RX1 37 yX1_answerSize, Cond.instanceMethod yX1_answerSize, Cond.selects RX1 yX1_answerSize yX1_answerSize, Cond.code yX1_answerSize cX1_answerSize 5 (some .int), Cond.methodLink RX1 33 yX1_answerPart, Cond.instanceMethod yX1_answerPart, Cond.selects RX1 yX1_answerPart yX1_answerPart, Cond.code yX1_answerPart cX1_answerPart 6 (some .int)]
def wsX6_greatest_r2 : List Cond := [Cond.fieldLink RX1 9 "PulseSigns$Filter" "numbers" "[I", Cond.fieldLink RX1 20 "PulseSigns$Sign" "turns" "[I", Cond.methodLink RX1 29 yX5_has, Cond.instanceMethod yX5_has, Cond.selects RX5 yX5_has yX5_has, Cond.initialized RX5, Cond.code yX5_has cX5_has 2 (some .boolean), Cond.fieldLink RX5 13 "PulseSigns$Sign" "length" "I", Cond.static yX6_partOfTurn, Cond.code yX6_partOfTurn cX6_partOfTurn 3 (some .int)]
def wsX6_greatest : List Cond := .code yX6_greatest cX6_greatest 2 (some .int) :: ((wsX6_greatest_r1 ++ wsX6_greatest_r2) ++ wsX60 ++ wsX10 ++ wsX50)
def wsX6_clear_r1 : List Cond := [Cond.fieldLink RX6 18 "PulseSigns" "sieve" "LPulseSigns$Filter;", Cond.fieldLink RX6 11 "PulseSigns" "signs" "[LPulseSigns$Sign;", Cond.methodLink RX6 41 yX6_isSign, Cond.static yX6_isSign, Cond.initialized RX6, Cond.code yX6_isSign cX6_isSign 1 (some .boolean), Cond.methodLink RX6 45 yX6_within, Cond.static yX6_within, Cond.code yX6_within cX6_within 3 (some .boolean), Cond.methodLink RX6 125 yX1_clearness, Cond.instanceMethod yX1_clearness, Cond.selects RX1 yX1_clearness yX1_clearness, Cond.initialized RX1, Cond.code yX1_clearness cX1_clearness 6 (some .int), Cond.fieldLink RX1 13 "PulseSigns$Filter" "length" "I", Cond.fieldLink RX1 17 "PulseSigns$Sign" "length" "I", Cond.methodLink RX1 45 Lib.Math.max.name, Cond.static Lib.Math.max.name, Cond.initialized "java/lang/Math", Cond.code Lib.Math.max.name Lib.Math.max.code 2 (some .int), Cond.constant RX1 50 (1000000), Cond.methodLink RX1 41 yX1_greatestPlace, Cond.instanceMethod yX1_greatestPlace, Cond.selects RX1 yX1_greatestPlace yX1_greatestPlace]
def wsX6_clear_r2 : List Cond := [Cond.code yX1_greatestPlace cX1_greatestPlace 6 (some .int), Cond.methodLink RX1 37 yX1_answerSize, Cond.instanceMethod yX1_answerSize, Cond.selects RX1 yX1_answerSize yX1_answerSize, Cond.code yX1_answerSize cX1_answerSize 5 (some .int), Cond.methodLink RX1 33 yX1_answerPart, Cond.instanceMethod yX1_answerPart, Cond.selects RX1 yX1_answerPart yX1_answerPart, Cond.code yX1_answerPart cX1_answerPart 6 (some .int), Cond.fieldLink RX1 9 "PulseSigns$Filter" "numbers" "[I", Cond.fieldLink RX1 20 "PulseSigns$Sign" "turns" "[I", Cond.methodLink RX1 29 yX5_has, Cond.instanceMethod yX5_has, Cond.selects RX5 yX5_has yX5_has, Cond.initialized RX5, Cond.code yX5_has cX5_has 2 (some .boolean), Cond.fieldLink RX5 13 "PulseSigns$Sign" "length" "I", Cond.static yX6_partOfTurn, Cond.code yX6_partOfTurn cX6_partOfTurn 3 (some .int)]
def wsX6_clear : List Cond := .code yX6_clear cX6_clear 2 (some .int) :: ((wsX6_clear_r1 ++ wsX6_clear_r2) ++ wsX60 ++ wsX10 ++ wsX50)
def wsX6_rests : List Cond := .code yX6_rests cX6_rests 2 (some .int) :: ([.fieldLink RX6 25 "PulseSigns" "ways" "LPulseSigns$Rests;", .methodLink RX6 45 yX6_within, .static yX6_within, .initialized RX6, .code yX6_within cX6_within 3 (some .boolean), .methodLink RX6 128 yX2_reset, .instanceMethod yX2_reset, .selects RX2 yX2_reset yX2_reset, .initialized RX2, .code yX2_reset cX2_reset 3 none, .fieldLink RX2 26 "PulseSigns$Rests" "length" "I", .fieldLink RX2 11 "PulseSigns$Rests" "periods" "[I", .fieldLink RX2 15 "PulseSigns$Rests" "readings" "[I"] ++ wsX60 ++ wsX20)
def wsX6_rest : List Cond := .code yX6_rest cX6_rest 4 (some .int) :: ([.fieldLink RX6 25 "PulseSigns" "ways" "LPulseSigns$Rests;", .fieldLink RX6 130 "PulseSigns$Rests" "periods" "[I", .fieldLink RX6 133 "PulseSigns$Rests" "readings" "[I", .methodLink RX6 129 yX2_has, .instanceMethod yX2_has, .selects RX2 yX2_has yX2_has, .initialized RX2, .code yX2_has cX2_has 2 (some .boolean), .fieldLink RX2 26 "PulseSigns$Rests" "length" "I", .static yX6_within, .initialized RX6, .code yX6_within cX6_within 3 (some .boolean), .methodLink RX6 45 yX6_within] ++ wsX60 ++ wsX20)
def wsX6_read : List Cond := .code yX6_read cX6_read 4 (some .int) :: ([.fieldLink RX6 25 "PulseSigns" "ways" "LPulseSigns$Rests;", .fieldLink RX6 130 "PulseSigns$Rests" "periods" "[I", .fieldLink RX6 133 "PulseSigns$Rests" "readings" "[I", .methodLink RX6 129 yX2_has, .instanceMethod yX2_has, .selects RX2 yX2_has yX2_has, .initialized RX2, .code yX2_has cX2_has 2 (some .boolean), .fieldLink RX2 26 "PulseSigns$Rests" "length" "I", .static yX6_within, .initialized RX6, .code yX6_within cX6_within 3 (some .boolean), .methodLink RX6 45 yX6_within] ++ wsX60 ++ wsX20)
def wsX6_fold : List Cond := .code yX6_fold cX6_fold 2 (some .int) :: ([.constant RX6 136 (1000000), .fieldLink RX6 25 "PulseSigns" "ways" "LPulseSigns$Rests;", .fieldLink RX6 140 "PulseSigns$Rests" "length" "I", .methodLink RX6 45 yX6_within, .static yX6_within, .initialized RX6, .code yX6_within cX6_within 3 (some .boolean), .methodLink RX6 137 yX2_readAll, .instanceMethod yX2_readAll, .selects RX2 yX2_readAll yX2_readAll, .initialized RX2, .code yX2_readAll cX2_readAll 3 none, .fieldLink RX2 26 "PulseSigns$Rests" "length" "I", .fieldLink RX2 15 "PulseSigns$Rests" "readings" "[I", .fieldLink RX2 11 "PulseSigns$Rests" "periods" "[I"] ++ wsX60 ++ wsX20)
def wsX6_unfold_r1 : List Cond := [Cond.fieldLink RX6 25 "PulseSigns" "ways" "LPulseSigns$Rests;", Cond.methodLink RX6 141 yX2_mayUnfold, Cond.static yX2_mayUnfold, Cond.initialized RX2, Cond.code yX2_mayUnfold cX2_mayUnfold 3 (some .boolean), Cond.static yX6_within, Cond.initialized RX6, Cond.code yX6_within cX6_within 3 (some .boolean), Cond.methodLink RX6 144 yX2_fitting, Cond.instanceMethod yX2_fitting, Cond.selects RX2 yX2_fitting yX2_fitting, Cond.code yX2_fitting cX2_fitting 6 (some .int), Cond.methodLink RX2 43 yX2_fits, Cond.instanceMethod yX2_fits, Cond.selects RX2 yX2_fits yX2_fits, Cond.code yX2_fits cX2_fits 6 (some .boolean), Cond.fieldLink RX2 26 "PulseSigns$Rests" "length" "I", Cond.methodLink RX2 40 yX2_isNear, Cond.instanceMethod yX2_isNear, Cond.selects RX2 yX2_isNear yX2_isNear, Cond.code yX2_isNear cX2_isNear 5 (some .boolean), Cond.fieldLink RX2 15 "PulseSigns$Rests" "readings" "[I", Cond.fieldLink RX2 11 "PulseSigns$Rests" "periods" "[I", Cond.methodLink RX2 30 Lib.Math.abs.name]
def wsX6_unfold_r2 : List Cond := [Cond.static Lib.Math.abs.name, Cond.initialized "java/lang/Math", Cond.code Lib.Math.abs.name Lib.Math.abs.code 1 (some .int), Cond.methodLink RX2 36 Lib.Math.min.name, Cond.static Lib.Math.min.name, Cond.code Lib.Math.min.name Lib.Math.min.code 2 (some .int)]
def wsX6_unfold : List Cond := .code yX6_unfold cX6_unfold 4 (some .int) :: ((wsX6_unfold_r1 ++ wsX6_unfold_r2) ++ wsX60 ++ wsX20)
def wsX6_unfolded_r1 : List Cond := [Cond.fieldLink RX6 25 "PulseSigns" "ways" "LPulseSigns$Rests;", Cond.methodLink RX6 141 yX2_mayUnfold, Cond.static yX2_mayUnfold, Cond.initialized RX2, Cond.code yX2_mayUnfold cX2_mayUnfold 3 (some .boolean), Cond.static yX6_within, Cond.initialized RX6, Cond.code yX6_within cX6_within 3 (some .boolean), Cond.methodLink RX6 148 yX2_fittingAt, Cond.instanceMethod yX2_fittingAt, Cond.selects RX2 yX2_fittingAt yX2_fittingAt, Cond.code yX2_fittingAt cX2_fittingAt 7 (some .int), Cond.methodLink RX2 43 yX2_fits, Cond.instanceMethod yX2_fits, Cond.selects RX2 yX2_fits yX2_fits, Cond.code yX2_fits cX2_fits 6 (some .boolean), Cond.fieldLink RX2 26 "PulseSigns$Rests" "length" "I", Cond.methodLink RX2 40 yX2_isNear, Cond.instanceMethod yX2_isNear, Cond.selects RX2 yX2_isNear yX2_isNear, Cond.code yX2_isNear cX2_isNear 5 (some .boolean), Cond.fieldLink RX2 15 "PulseSigns$Rests" "readings" "[I", Cond.fieldLink RX2 11 "PulseSigns$Rests" "periods" "[I", Cond.methodLink RX2 30 Lib.Math.abs.name]
def wsX6_unfolded_r2 : List Cond := [Cond.static Lib.Math.abs.name, Cond.initialized "java/lang/Math", Cond.code Lib.Math.abs.name Lib.Math.abs.code 1 (some .int), Cond.methodLink RX2 36 Lib.Math.min.name, Cond.static Lib.Math.min.name, Cond.code Lib.Math.min.name Lib.Math.min.code 2 (some .int)]
def wsX6_unfolded : List Cond := .code yX6_unfolded cX6_unfolded 5 (some .int) :: ((wsX6_unfolded_r1 ++ wsX6_unfolded_r2) ++ wsX60 ++ wsX20)
def wsX6_common : List Cond := .code yX6_common cX6_common 1 (some .int) :: ([.fieldLink RX6 25 "PulseSigns" "ways" "LPulseSigns$Rests;", .methodLink RX6 152 yX2_leastCommon, .instanceMethod yX2_leastCommon, .selects RX2 yX2_leastCommon yX2_leastCommon, .initialized RX2, .code yX2_leastCommon cX2_leastCommon 3 (some .int), .fieldLink RX2 26 "PulseSigns$Rests" "length" "I", .fieldLink RX2 11 "PulseSigns$Rests" "periods" "[I", .static yX6_commonDivisor, .initialized RX6, .code yX6_commonDivisor cX6_commonDivisor 11 (some .long)] ++ wsX60 ++ wsX20)
def wsX6_blind : List Cond := .code yX6_blind cX6_blind 3 (some .int) :: ([.fieldLink RX6 25 "PulseSigns" "ways" "LPulseSigns$Rests;", .fieldLink RX6 140 "PulseSigns$Rests" "length" "I", .methodLink RX6 129 yX2_has, .instanceMethod yX2_has, .selects RX2 yX2_has yX2_has, .initialized RX2, .code yX2_has cX2_has 2 (some .boolean), .fieldLink RX2 26 "PulseSigns$Rests" "length" "I", .static yX6_within, .initialized RX6, .code yX6_within cX6_within 3 (some .boolean), .methodLink RX6 45 yX6_within, .methodLink RX6 155 yX2_unseen, .instanceMethod yX2_unseen, .selects RX2 yX2_unseen yX2_unseen, .code yX2_unseen cX2_unseen 7 (some .int), .fieldLink RX2 11 "PulseSigns$Rests" "periods" "[I", .static yX6_commonDivisor, .code yX6_commonDivisor cX6_commonDivisor 11 (some .long)] ++ wsX60 ++ wsX20)
def wsX6_put : List Cond := .code yX6_put cX6_put 2 (some .int) :: ([.fieldLink RX6 32 "PulseSigns" "line" "LPulseSigns$Row;", .fieldLink RX6 161 "PulseSigns$Row" "length" "I", .methodLink RX6 45 yX6_within, .static yX6_within, .initialized RX6, .code yX6_within cX6_within 3 (some .boolean), .methodLink RX6 158 yX3_append, .instanceMethod yX3_append, .selects RX3 yX3_append yX3_append, .initialized RX3, .code yX3_append cX3_append 2 (some .boolean), .fieldLink RX3 13 "PulseSigns$Row" "length" "I", .fieldLink RX3 9 "PulseSigns$Row" "numbers" "[I"] ++ wsX60 ++ wsX30)
def wsX6_empty : List Cond := .code yX6_empty cX6_empty 2 (some .int) :: ([.fieldLink RX6 32 "PulseSigns" "line" "LPulseSigns$Row;", .fieldLink RX6 161 "PulseSigns$Row" "length" "I"] ++ wsX60 ++ wsX30)
def wsX6_found_r1 : List Cond := [Cond.fieldLink RX6 32 "PulseSigns" "line" "LPulseSigns$Row;", Cond.fieldLink RX6 161 "PulseSigns$Row" "length" "I", Cond.methodLink RX6 45 yX6_within, Cond.static yX6_within, Cond.initialized RX6, Cond.code yX6_within cX6_within 3 (some .boolean), Cond.methodLink RX6 162 yX3_maySeek, Cond.static yX3_maySeek, Cond.initialized RX3, Cond.code yX3_maySeek cX3_maySeek 4 (some .boolean), Cond.methodLink RX6 166 yX3_standsOut, Cond.instanceMethod yX3_standsOut, Cond.selects RX3 yX3_standsOut yX3_standsOut, Cond.code yX3_standsOut cX3_standsOut 7 (some .boolean), Cond.fieldLink RX3 9 "PulseSigns$Row" "numbers" "[I", Cond.fieldLink RX3 17 "PulseSigns$Row" "ordered" "[I", Cond.methodLink RX3 26 yX3_orderNeighbours, Cond.instanceMethod yX3_orderNeighbours, Cond.selects RX3 yX3_orderNeighbours yX3_orderNeighbours, Cond.code yX3_orderNeighbours cX3_orderNeighbours 6 (some .int), Cond.fieldLink RX3 13 "PulseSigns$Row" "length" "I", Cond.methodLink RX3 34 yX3_insert, Cond.instanceMethod yX3_insert, Cond.selects RX3 yX3_insert yX3_insert]
def wsX6_found_r2 : List Cond := [Cond.code yX3_insert cX3_insert 4 none]
def wsX6_found : List Cond := .code yX6_found cX6_found 6 (some .int) :: ((wsX6_found_r1 ++ wsX6_found_r2) ++ wsX60 ++ wsX30)
def wsX6_count_r1 : List Cond := [Cond.fieldLink RX6 32 "PulseSigns" "line" "LPulseSigns$Row;", Cond.methodLink RX6 162 yX3_maySeek, Cond.static yX3_maySeek, Cond.initialized RX3, Cond.code yX3_maySeek cX3_maySeek 4 (some .boolean), Cond.static yX6_within, Cond.initialized RX6, Cond.code yX6_within cX6_within 3 (some .boolean), Cond.methodLink RX6 170 yX3_standingOut, Cond.instanceMethod yX3_standingOut, Cond.selects RX3 yX3_standingOut yX3_standingOut, Cond.code yX3_standingOut cX3_standingOut 7 (some .int), Cond.fieldLink RX3 13 "PulseSigns$Row" "length" "I", Cond.methodLink RX3 30 yX3_standsOut, Cond.instanceMethod yX3_standsOut, Cond.selects RX3 yX3_standsOut yX3_standsOut, Cond.code yX3_standsOut cX3_standsOut 7 (some .boolean), Cond.fieldLink RX3 9 "PulseSigns$Row" "numbers" "[I", Cond.fieldLink RX3 17 "PulseSigns$Row" "ordered" "[I", Cond.methodLink RX3 26 yX3_orderNeighbours, Cond.instanceMethod yX3_orderNeighbours, Cond.selects RX3 yX3_orderNeighbours yX3_orderNeighbours, Cond.code yX3_orderNeighbours cX3_orderNeighbours 6 (some .int), Cond.methodLink RX3 34 yX3_insert]
def wsX6_count_r2 : List Cond := [Cond.instanceMethod yX3_insert, Cond.selects RX3 yX3_insert yX3_insert, Cond.code yX3_insert cX3_insert 4 none]
def wsX6_count : List Cond := .code yX6_count cX6_count 5 (some .int) :: ((wsX6_count_r1 ++ wsX6_count_r2) ++ wsX60 ++ wsX30)
def wsX6_share : List Cond := .code yX6_share cX6_share 11 (some .long) :: ([.constantLong RX6 179 (-102), .methodLink RX6 173 yX0_mayOrder, .static yX0_mayOrder, .initialized RX0, .code yX0_mayOrder cX0_mayOrder 2 (some .boolean), .static yX6_within, .initialized RX6, .code yX6_within cX6_within 3 (some .boolean), .methodLink RX6 45 yX6_within, .methodLink RX6 76 yX6_isPart, .static yX6_isPart, .code yX6_isPart cX6_isPart 1 (some .boolean), .methodLink RX6 181 yX0_product, .static yX0_product, .code yX0_product cX0_product 6 (some .long), .methodLink RX6 185 yX6_commonDivisor, .static yX6_commonDivisor, .code yX6_commonDivisor cX6_commonDivisor 11 (some .long)])
def wsX6_scale : List Cond := .code yX6_scale cX6_scale 4 (some .int) :: ([.constant RX6 189 (1000000000), .methodLink RX6 173 yX0_mayOrder, .static yX0_mayOrder, .initialized RX0, .code yX0_mayOrder cX0_mayOrder 2 (some .boolean), .static yX6_within, .initialized RX6, .code yX6_within cX6_within 3 (some .boolean), .methodLink RX6 45 yX6_within, .methodLink RX6 190 yX0_leastScale, .static yX0_leastScale, .code yX0_leastScale cX0_leastScale 6 (some .int), .methodLink RX0 15 yX0_product, .static yX0_product, .code yX0_product cX0_product 6 (some .long)])
def wsX6_told : List Cond := .code yX6_told cX6_told 2 (some .int) :: ([.fieldLink RX6 18 "PulseSigns" "sieve" "LPulseSigns$Filter;", .fieldLink RX6 108 "PulseSigns$Filter" "length" "I", .fieldLink RX6 25 "PulseSigns" "ways" "LPulseSigns$Rests;", .fieldLink RX6 140 "PulseSigns$Rests" "length" "I", .fieldLink RX6 32 "PulseSigns" "line" "LPulseSigns$Row;", .fieldLink RX6 161 "PulseSigns$Row" "length" "I", .fieldLink RX6 36 "PulseSigns" "searches" "I"] ++ wsX60 ++ wsX10 ++ wsX20 ++ wsX30)
def wsX6_mix : List Cond := .code yX6_mix cX6_mix 4 (some .long) :: ([.constantLong RX6 203 (31)])
def wsX6_mixAll : List Cond := .code yX6_mixAll cX6_mixAll 7 (some .long) :: ([.methodLink RX6 195 yX6_mix, .static yX6_mix, .initialized RX6, .code yX6_mix cX6_mix 4 (some .long), .constantLong RX6 203 (31)])
def wsX6_digest : List Cond := .code yX6_digest cX6_digest 4 (some .long) :: ([.constantLong RX6 193 (181), .fieldLink RX6 11 "PulseSigns" "signs" "[LPulseSigns$Sign;", .fieldLink RX6 73 "PulseSigns$Sign" "length" "I", .fieldLink RX6 56 "PulseSigns$Sign" "turns" "[I", .fieldLink RX6 18 "PulseSigns" "sieve" "LPulseSigns$Filter;", .fieldLink RX6 108 "PulseSigns$Filter" "length" "I", .fieldLink RX6 109 "PulseSigns$Filter" "numbers" "[I", .fieldLink RX6 25 "PulseSigns" "ways" "LPulseSigns$Rests;", .fieldLink RX6 140 "PulseSigns$Rests" "length" "I", .fieldLink RX6 130 "PulseSigns$Rests" "periods" "[I", .fieldLink RX6 133 "PulseSigns$Rests" "readings" "[I", .fieldLink RX6 32 "PulseSigns" "line" "LPulseSigns$Row;", .fieldLink RX6 202 "PulseSigns$Row" "numbers" "[I", .fieldLink RX6 161 "PulseSigns$Row" "length" "I", .fieldLink RX6 36 "PulseSigns" "searches" "I", .methodLink RX6 195 yX6_mix, .static yX6_mix, .initialized RX6, .code yX6_mix cX6_mix 4 (some .long), .constantLong RX6 203 (31), .methodLink RX6 198 yX6_mixAll, .static yX6_mixAll, .code yX6_mixAll cX6_mixAll 7 (some .long)] ++ wsX60 ++ wsX50 ++ wsX10 ++ wsX20 ++ wsX30)
def wsX7_init : List Cond := .code yX7_init cX7_init 2 none :: ([.methodLink RX7 1 objectInit, .instanceMethod objectInit, .code objectInit ⟨#[0xb1]⟩ 1 none, .arrayClass .int, .fieldLink RX7 7 "PulseSignsModel" "sizes" "[I", .fieldLink RX7 13 "PulseSignsModel" "turns" "[I", .fieldLink RX7 16 "PulseSignsModel" "filterSize" "I", .fieldLink RX7 20 "PulseSignsModel" "weights" "[I", .fieldLink RX7 23 "PulseSignsModel" "restMany" "I", .fieldLink RX7 26 "PulseSignsModel" "restOf" "[I", .fieldLink RX7 29 "PulseSignsModel" "readOf" "[I", .fieldLink RX7 32 "PulseSignsModel" "row" "[I", .fieldLink RX7 35 "PulseSignsModel" "copy" "[I"] ++ wsX70)
def wsX7_in : List Cond := .code yX7_in cX7_in 3 (some .boolean) :: ([])
def wsX7_isSign : List Cond := .code yX7_isSign cX7_isSign 1 (some .boolean) :: ([.methodLink RX7 38 yX7_in, .static yX7_in, .initialized RX7, .code yX7_in cX7_in 3 (some .boolean)])
def wsX7_size : List Cond := .code yX7_size cX7_size 4 (some .int) :: ([.fieldLink RX7 7 "PulseSignsModel" "sizes" "[I", .fieldLink RX7 13 "PulseSignsModel" "turns" "[I", .methodLink RX7 42 yX7_isSign, .static yX7_isSign, .initialized RX7, .code yX7_isSign cX7_isSign 1 (some .boolean), .methodLink RX7 38 yX7_in, .static yX7_in, .code yX7_in cX7_in 3 (some .boolean)] ++ wsX70)
def wsX7_turn : List Cond := .code yX7_turn cX7_turn 5 (some .int) :: ([.fieldLink RX7 7 "PulseSignsModel" "sizes" "[I", .fieldLink RX7 13 "PulseSignsModel" "turns" "[I", .methodLink RX7 42 yX7_isSign, .static yX7_isSign, .initialized RX7, .code yX7_isSign cX7_isSign 1 (some .boolean), .methodLink RX7 38 yX7_in, .static yX7_in, .code yX7_in cX7_in 3 (some .boolean)] ++ wsX70)
def wsX7_turned : List Cond := .code yX7_turned cX7_turned 3 (some .int) :: ([.fieldLink RX7 7 "PulseSignsModel" "sizes" "[I", .fieldLink RX7 13 "PulseSignsModel" "turns" "[I", .methodLink RX7 42 yX7_isSign, .static yX7_isSign, .initialized RX7, .code yX7_isSign cX7_isSign 1 (some .boolean), .methodLink RX7 38 yX7_in, .static yX7_in, .code yX7_in cX7_in 3 (some .boolean)] ++ wsX70)
def wsX7_made : List Cond := .code yX7_made cX7_made 7 (some .int) :: ([.fieldLink RX7 7 "PulseSignsModel" "sizes" "[I", .fieldLink RX7 13 "PulseSignsModel" "turns" "[I", .fieldLink RX7 35 "PulseSignsModel" "copy" "[I", .methodLink RX7 42 yX7_isSign, .static yX7_isSign, .initialized RX7, .code yX7_isSign cX7_isSign 1 (some .boolean), .methodLink RX7 38 yX7_in, .static yX7_in, .code yX7_in cX7_in 3 (some .boolean)] ++ wsX70)
def wsX7_add : List Cond := .code yX7_add cX7_add 3 none :: ([.fieldLink RX7 46 "PulseSignsModel" "real" "I", .fieldLink RX7 49 "PulseSignsModel" "other" "I"] ++ wsX70)
def wsX7_looks : List Cond := .code yX7_looks cX7_looks 6 (some .int) :: ([.fieldLink RX7 46 "PulseSignsModel" "real" "I", .fieldLink RX7 49 "PulseSignsModel" "other" "I", .fieldLink RX7 7 "PulseSignsModel" "sizes" "[I", .fieldLink RX7 13 "PulseSignsModel" "turns" "[I", .methodLink RX7 38 yX7_in, .static yX7_in, .initialized RX7, .code yX7_in cX7_in 3 (some .boolean), .methodLink RX7 52 yX7_add, .instanceMethod yX7_add, .selects RX7 yX7_add yX7_add, .code yX7_add cX7_add 3 none] ++ wsX70)
def wsX7_look : List Cond := .code yX7_look cX7_look 6 (some .int) :: ([.fieldLink RX7 46 "PulseSignsModel" "real" "I", .fieldLink RX7 49 "PulseSignsModel" "other" "I", .methodLink RX7 42 yX7_isSign, .static yX7_isSign, .initialized RX7, .code yX7_isSign cX7_isSign 1 (some .boolean), .methodLink RX7 38 yX7_in, .static yX7_in, .code yX7_in cX7_in 3 (some .boolean), .methodLink RX7 56 yX7_looks, .instanceMethod yX7_looks, .selects RX7 yX7_looks yX7_looks, .code yX7_looks cX7_looks 6 (some .int), .fieldLink RX7 7 "PulseSignsModel" "sizes" "[I", .fieldLink RX7 13 "PulseSignsModel" "turns" "[I", .methodLink RX7 52 yX7_add, .instanceMethod yX7_add, .selects RX7 yX7_add yX7_add, .code yX7_add cX7_add 3 none] ++ wsX70)
def wsX7_peakOf : List Cond := .code yX7_peakOf cX7_peakOf 5 (some .int) :: ([.fieldLink RX7 7 "PulseSignsModel" "sizes" "[I", .methodLink RX7 56 yX7_looks, .instanceMethod yX7_looks, .selects RX7 yX7_looks yX7_looks, .initialized RX7, .code yX7_looks cX7_looks 6 (some .int), .fieldLink RX7 46 "PulseSignsModel" "real" "I", .fieldLink RX7 49 "PulseSignsModel" "other" "I", .fieldLink RX7 13 "PulseSignsModel" "turns" "[I", .methodLink RX7 38 yX7_in, .static yX7_in, .code yX7_in cX7_in 3 (some .boolean), .methodLink RX7 52 yX7_add, .instanceMethod yX7_add, .selects RX7 yX7_add yX7_add, .code yX7_add cX7_add 3 none] ++ wsX70)
def wsX7_flankOf : List Cond := .code yX7_flankOf cX7_flankOf 4 (some .int) :: ([.fieldLink RX7 7 "PulseSignsModel" "sizes" "[I", .methodLink RX7 56 yX7_looks, .instanceMethod yX7_looks, .selects RX7 yX7_looks yX7_looks, .initialized RX7, .code yX7_looks cX7_looks 6 (some .int), .fieldLink RX7 46 "PulseSignsModel" "real" "I", .fieldLink RX7 49 "PulseSignsModel" "other" "I", .fieldLink RX7 13 "PulseSignsModel" "turns" "[I", .methodLink RX7 38 yX7_in, .static yX7_in, .code yX7_in cX7_in 3 (some .boolean), .methodLink RX7 52 yX7_add, .instanceMethod yX7_add, .selects RX7 yX7_add yX7_add, .code yX7_add cX7_add 3 none] ++ wsX70)
def wsX7_peak : List Cond := .code yX7_peak cX7_peak 2 (some .int) :: ([.methodLink RX7 42 yX7_isSign, .static yX7_isSign, .initialized RX7, .code yX7_isSign cX7_isSign 1 (some .boolean), .methodLink RX7 38 yX7_in, .static yX7_in, .code yX7_in cX7_in 3 (some .boolean), .methodLink RX7 60 yX7_peakOf, .instanceMethod yX7_peakOf, .selects RX7 yX7_peakOf yX7_peakOf, .code yX7_peakOf cX7_peakOf 5 (some .int), .fieldLink RX7 7 "PulseSignsModel" "sizes" "[I", .methodLink RX7 56 yX7_looks, .instanceMethod yX7_looks, .selects RX7 yX7_looks yX7_looks, .code yX7_looks cX7_looks 6 (some .int), .fieldLink RX7 46 "PulseSignsModel" "real" "I", .fieldLink RX7 49 "PulseSignsModel" "other" "I", .fieldLink RX7 13 "PulseSignsModel" "turns" "[I", .methodLink RX7 52 yX7_add, .instanceMethod yX7_add, .selects RX7 yX7_add yX7_add, .code yX7_add cX7_add 3 none] ++ wsX70)
def wsX7_flank : List Cond := .code yX7_flank cX7_flank 2 (some .int) :: ([.methodLink RX7 42 yX7_isSign, .static yX7_isSign, .initialized RX7, .code yX7_isSign cX7_isSign 1 (some .boolean), .methodLink RX7 38 yX7_in, .static yX7_in, .code yX7_in cX7_in 3 (some .boolean), .methodLink RX7 64 yX7_flankOf, .instanceMethod yX7_flankOf, .selects RX7 yX7_flankOf yX7_flankOf, .code yX7_flankOf cX7_flankOf 4 (some .int), .fieldLink RX7 7 "PulseSignsModel" "sizes" "[I", .methodLink RX7 56 yX7_looks, .instanceMethod yX7_looks, .selects RX7 yX7_looks yX7_looks, .code yX7_looks cX7_looks 6 (some .int), .fieldLink RX7 46 "PulseSignsModel" "real" "I", .fieldLink RX7 49 "PulseSignsModel" "other" "I", .fieldLink RX7 13 "PulseSignsModel" "turns" "[I", .methodLink RX7 52 yX7_add, .instanceMethod yX7_add, .selects RX7 yX7_add yX7_add, .code yX7_add cX7_add 3 none] ++ wsX70)
def wsX7_worst : List Cond := .code yX7_worst cX7_worst 6 (some .int) :: ([.methodLink RX7 42 yX7_isSign, .static yX7_isSign, .initialized RX7, .code yX7_isSign cX7_isSign 1 (some .boolean), .methodLink RX7 38 yX7_in, .static yX7_in, .code yX7_in cX7_in 3 (some .boolean), .methodLink RX7 56 yX7_looks, .instanceMethod yX7_looks, .selects RX7 yX7_looks yX7_looks, .code yX7_looks cX7_looks 6 (some .int), .fieldLink RX7 46 "PulseSignsModel" "real" "I", .fieldLink RX7 49 "PulseSignsModel" "other" "I", .fieldLink RX7 7 "PulseSignsModel" "sizes" "[I", .fieldLink RX7 13 "PulseSignsModel" "turns" "[I", .methodLink RX7 52 yX7_add, .instanceMethod yX7_add, .selects RX7 yX7_add yX7_add, .code yX7_add cX7_add 3 none] ++ wsX70)
def wsX7_lay : List Cond := .code yX7_lay cX7_lay 5 none :: ([.fieldLink RX7 13 "PulseSignsModel" "turns" "[I"] ++ wsX70)
def wsX7_best_r1 : List Cond := [Cond.fieldLink RX7 67 "PulseSignsModel" "bests" "I", Cond.fieldLink RX7 7 "PulseSignsModel" "sizes" "[I", Cond.methodLink RX7 42 yX7_isSign, Cond.static yX7_isSign, Cond.initialized RX7, Cond.code yX7_isSign cX7_isSign 1 (some .boolean), Cond.methodLink RX7 38 yX7_in, Cond.static yX7_in, Cond.code yX7_in cX7_in 3 (some .boolean), Cond.methodLink RX7 70 yX7_lay, Cond.instanceMethod yX7_lay, Cond.selects RX7 yX7_lay yX7_lay, Cond.code yX7_lay cX7_lay 5 none, Cond.fieldLink RX7 13 "PulseSignsModel" "turns" "[I", Cond.methodLink RX7 60 yX7_peakOf, Cond.instanceMethod yX7_peakOf, Cond.selects RX7 yX7_peakOf yX7_peakOf, Cond.code yX7_peakOf cX7_peakOf 5 (some .int), Cond.methodLink RX7 56 yX7_looks, Cond.instanceMethod yX7_looks, Cond.selects RX7 yX7_looks yX7_looks, Cond.code yX7_looks cX7_looks 6 (some .int), Cond.fieldLink RX7 46 "PulseSignsModel" "real" "I", Cond.fieldLink RX7 49 "PulseSignsModel" "other" "I"]
def wsX7_best_r2 : List Cond := [Cond.methodLink RX7 52 yX7_add, Cond.instanceMethod yX7_add, Cond.selects RX7 yX7_add yX7_add, Cond.code yX7_add cX7_add 3 none, Cond.methodLink RX7 64 yX7_flankOf, Cond.instanceMethod yX7_flankOf, Cond.selects RX7 yX7_flankOf yX7_flankOf, Cond.code yX7_flankOf cX7_flankOf 4 (some .int)]
def wsX7_best : List Cond := .code yX7_best cX7_best 9 (some .int) :: ((wsX7_best_r1 ++ wsX7_best_r2) ++ wsX70)
def wsX7_pair : List Cond := .code yX7_pair cX7_pair 7 (some .int) :: ([.fieldLink RX7 7 "PulseSignsModel" "sizes" "[I", .fieldLink RX7 46 "PulseSignsModel" "real" "I", .fieldLink RX7 49 "PulseSignsModel" "other" "I", .methodLink RX7 42 yX7_isSign, .static yX7_isSign, .initialized RX7, .code yX7_isSign cX7_isSign 1 (some .boolean), .methodLink RX7 38 yX7_in, .static yX7_in, .code yX7_in cX7_in 3 (some .boolean), .methodLink RX7 56 yX7_looks, .instanceMethod yX7_looks, .selects RX7 yX7_looks yX7_looks, .code yX7_looks cX7_looks 6 (some .int), .fieldLink RX7 13 "PulseSignsModel" "turns" "[I", .methodLink RX7 52 yX7_add, .instanceMethod yX7_add, .selects RX7 yX7_add yX7_add, .code yX7_add cX7_add 3 none] ++ wsX70)
def wsX7_filter : List Cond := .code yX7_filter cX7_filter 3 (some .int) :: ([.fieldLink RX7 16 "PulseSignsModel" "filterSize" "I", .fieldLink RX7 20 "PulseSignsModel" "weights" "[I", .methodLink RX7 38 yX7_in, .static yX7_in, .initialized RX7, .code yX7_in cX7_in 3 (some .boolean)] ++ wsX70)
def wsX7_weight : List Cond := .code yX7_weight cX7_weight 4 (some .int) :: ([.fieldLink RX7 16 "PulseSignsModel" "filterSize" "I", .fieldLink RX7 20 "PulseSignsModel" "weights" "[I", .methodLink RX7 38 yX7_in, .static yX7_in, .initialized RX7, .code yX7_in cX7_in 3 (some .boolean)] ++ wsX70)
def wsX7_own : List Cond := .code yX7_own cX7_own 4 (some .int) :: ([.fieldLink RX7 7 "PulseSignsModel" "sizes" "[I", .fieldLink RX7 16 "PulseSignsModel" "filterSize" "I", .fieldLink RX7 13 "PulseSignsModel" "turns" "[I", .fieldLink RX7 20 "PulseSignsModel" "weights" "[I", .methodLink RX7 42 yX7_isSign, .static yX7_isSign, .initialized RX7, .code yX7_isSign cX7_isSign 1 (some .boolean), .methodLink RX7 38 yX7_in, .static yX7_in, .code yX7_in cX7_in 3 (some .boolean)] ++ wsX70)
def wsX7_answers : List Cond := .code yX7_answers cX7_answers 4 (some .int) :: ([.fieldLink RX7 46 "PulseSignsModel" "real" "I", .fieldLink RX7 49 "PulseSignsModel" "other" "I", .fieldLink RX7 16 "PulseSignsModel" "filterSize" "I", .fieldLink RX7 7 "PulseSignsModel" "sizes" "[I", .fieldLink RX7 13 "PulseSignsModel" "turns" "[I", .fieldLink RX7 20 "PulseSignsModel" "weights" "[I", .methodLink RX7 38 yX7_in, .static yX7_in, .initialized RX7, .code yX7_in cX7_in 3 (some .boolean), .methodLink RX7 52 yX7_add, .instanceMethod yX7_add, .selects RX7 yX7_add yX7_add, .code yX7_add cX7_add 3 none] ++ wsX70)
def wsX7_answer : List Cond := .code yX7_answer cX7_answer 4 (some .int) :: ([.constant RX7 74 (-100000), .constant RX7 75 (-100001), .fieldLink RX7 46 "PulseSignsModel" "real" "I", .fieldLink RX7 49 "PulseSignsModel" "other" "I", .methodLink RX7 42 yX7_isSign, .static yX7_isSign, .initialized RX7, .code yX7_isSign cX7_isSign 1 (some .boolean), .methodLink RX7 38 yX7_in, .static yX7_in, .code yX7_in cX7_in 3 (some .boolean), .methodLink RX7 76 yX7_answers, .instanceMethod yX7_answers, .selects RX7 yX7_answers yX7_answers, .code yX7_answers cX7_answers 4 (some .int), .fieldLink RX7 16 "PulseSignsModel" "filterSize" "I", .fieldLink RX7 7 "PulseSignsModel" "sizes" "[I", .fieldLink RX7 13 "PulseSignsModel" "turns" "[I", .fieldLink RX7 20 "PulseSignsModel" "weights" "[I", .methodLink RX7 52 yX7_add, .instanceMethod yX7_add, .selects RX7 yX7_add yX7_add, .code yX7_add cX7_add 3 none] ++ wsX70)
def wsX7_greatestOf : List Cond := .code yX7_greatestOf cX7_greatestOf 6 (some .int) :: ([.fieldLink RX7 7 "PulseSignsModel" "sizes" "[I", .fieldLink RX7 16 "PulseSignsModel" "filterSize" "I", .methodLink RX7 76 yX7_answers, .instanceMethod yX7_answers, .selects RX7 yX7_answers yX7_answers, .initialized RX7, .code yX7_answers cX7_answers 4 (some .int), .fieldLink RX7 46 "PulseSignsModel" "real" "I", .fieldLink RX7 49 "PulseSignsModel" "other" "I", .fieldLink RX7 13 "PulseSignsModel" "turns" "[I", .fieldLink RX7 20 "PulseSignsModel" "weights" "[I", .methodLink RX7 38 yX7_in, .static yX7_in, .code yX7_in cX7_in 3 (some .boolean), .methodLink RX7 52 yX7_add, .instanceMethod yX7_add, .selects RX7 yX7_add yX7_add, .code yX7_add cX7_add 3 none] ++ wsX70)
def wsX7_greatest_r1 : List Cond := [Cond.methodLink RX7 42 yX7_isSign, Cond.static yX7_isSign, Cond.initialized RX7, Cond.code yX7_isSign cX7_isSign 1 (some .boolean), Cond.methodLink RX7 38 yX7_in, Cond.static yX7_in, Cond.code yX7_in cX7_in 3 (some .boolean), Cond.methodLink RX7 80 yX7_greatestOf, Cond.instanceMethod yX7_greatestOf, Cond.selects RX7 yX7_greatestOf yX7_greatestOf, Cond.code yX7_greatestOf cX7_greatestOf 6 (some .int), Cond.fieldLink RX7 7 "PulseSignsModel" "sizes" "[I", Cond.fieldLink RX7 16 "PulseSignsModel" "filterSize" "I", Cond.methodLink RX7 76 yX7_answers, Cond.instanceMethod yX7_answers, Cond.selects RX7 yX7_answers yX7_answers, Cond.code yX7_answers cX7_answers 4 (some .int), Cond.fieldLink RX7 46 "PulseSignsModel" "real" "I", Cond.fieldLink RX7 49 "PulseSignsModel" "other" "I", Cond.fieldLink RX7 13 "PulseSignsModel" "turns" "[I", Cond.fieldLink RX7 20 "PulseSignsModel" "weights" "[I", Cond.methodLink RX7 52 yX7_add, Cond.instanceMethod yX7_add, Cond.selects RX7 yX7_add yX7_add]
def wsX7_greatest_r2 : List Cond := [Cond.code yX7_add cX7_add 3 none]
def wsX7_greatest : List Cond := .code yX7_greatest cX7_greatest 2 (some .int) :: ((wsX7_greatest_r1 ++ wsX7_greatest_r2) ++ wsX70)
def wsX7_clear_r1 : List Cond := [Cond.fieldLink RX7 7 "PulseSignsModel" "sizes" "[I", Cond.fieldLink RX7 16 "PulseSignsModel" "filterSize" "I", Cond.constant RX7 83 (1000000), Cond.methodLink RX7 42 yX7_isSign, Cond.static yX7_isSign, Cond.initialized RX7, Cond.code yX7_isSign cX7_isSign 1 (some .boolean), Cond.methodLink RX7 38 yX7_in, Cond.static yX7_in, Cond.code yX7_in cX7_in 3 (some .boolean), Cond.methodLink RX7 80 yX7_greatestOf, Cond.instanceMethod yX7_greatestOf, Cond.selects RX7 yX7_greatestOf yX7_greatestOf, Cond.code yX7_greatestOf cX7_greatestOf 6 (some .int), Cond.methodLink RX7 76 yX7_answers, Cond.instanceMethod yX7_answers, Cond.selects RX7 yX7_answers yX7_answers, Cond.code yX7_answers cX7_answers 4 (some .int), Cond.fieldLink RX7 46 "PulseSignsModel" "real" "I", Cond.fieldLink RX7 49 "PulseSignsModel" "other" "I", Cond.fieldLink RX7 13 "PulseSignsModel" "turns" "[I", Cond.fieldLink RX7 20 "PulseSignsModel" "weights" "[I", Cond.methodLink RX7 52 yX7_add, Cond.instanceMethod yX7_add]
def wsX7_clear_r2 : List Cond := [Cond.selects RX7 yX7_add yX7_add, Cond.code yX7_add cX7_add 3 none]
def wsX7_clear : List Cond := .code yX7_clear cX7_clear 7 (some .int) :: ((wsX7_clear_r1 ++ wsX7_clear_r2) ++ wsX70)
def wsX7_rests : List Cond := .code yX7_rests cX7_rests 3 (some .int) :: ([.fieldLink RX7 23 "PulseSignsModel" "restMany" "I", .fieldLink RX7 26 "PulseSignsModel" "restOf" "[I", .fieldLink RX7 29 "PulseSignsModel" "readOf" "[I", .methodLink RX7 38 yX7_in, .static yX7_in, .initialized RX7, .code yX7_in cX7_in 3 (some .boolean)] ++ wsX70)
def wsX7_isRest : List Cond := .code yX7_isRest cX7_isRest 2 (some .boolean) :: ([.fieldLink RX7 23 "PulseSignsModel" "restMany" "I", .methodLink RX7 38 yX7_in, .static yX7_in, .initialized RX7, .code yX7_in cX7_in 3 (some .boolean)] ++ wsX70)
def wsX7_rest : List Cond := .code yX7_rest cX7_rest 4 (some .int) :: ([.fieldLink RX7 26 "PulseSignsModel" "restOf" "[I", .fieldLink RX7 29 "PulseSignsModel" "readOf" "[I", .methodLink RX7 84 yX7_isRest, .instanceMethod yX7_isRest, .selects RX7 yX7_isRest yX7_isRest, .initialized RX7, .code yX7_isRest cX7_isRest 2 (some .boolean), .fieldLink RX7 23 "PulseSignsModel" "restMany" "I", .methodLink RX7 38 yX7_in, .static yX7_in, .code yX7_in cX7_in 3 (some .boolean)] ++ wsX70)
def wsX7_read : List Cond := .code yX7_read cX7_read 4 (some .int) :: ([.fieldLink RX7 26 "PulseSignsModel" "restOf" "[I", .fieldLink RX7 29 "PulseSignsModel" "readOf" "[I", .methodLink RX7 84 yX7_isRest, .instanceMethod yX7_isRest, .selects RX7 yX7_isRest yX7_isRest, .initialized RX7, .code yX7_isRest cX7_isRest 2 (some .boolean), .fieldLink RX7 23 "PulseSignsModel" "restMany" "I", .methodLink RX7 38 yX7_in, .static yX7_in, .code yX7_in cX7_in 3 (some .boolean)] ++ wsX70)
def wsX7_fold : List Cond := .code yX7_fold cX7_fold 3 (some .int) :: ([.constant RX7 83 (1000000), .fieldLink RX7 23 "PulseSignsModel" "restMany" "I", .fieldLink RX7 29 "PulseSignsModel" "readOf" "[I", .fieldLink RX7 26 "PulseSignsModel" "restOf" "[I", .methodLink RX7 38 yX7_in, .static yX7_in, .initialized RX7, .code yX7_in cX7_in 3 (some .boolean)] ++ wsX70)
def wsX7_fits : List Cond := .code yX7_fits cX7_fits 7 (some .boolean) :: ([.fieldLink RX7 23 "PulseSignsModel" "restMany" "I", .fieldLink RX7 29 "PulseSignsModel" "readOf" "[I", .fieldLink RX7 26 "PulseSignsModel" "restOf" "[I"] ++ wsX70)
def wsX7_isAsked : List Cond := .code yX7_isAsked cX7_isAsked 3 (some .boolean) :: ([.methodLink RX7 38 yX7_in, .static yX7_in, .initialized RX7, .code yX7_in cX7_in 3 (some .boolean)])
def wsX7_unfold : List Cond := .code yX7_unfold cX7_unfold 6 (some .int) :: ([.methodLink RX7 87 yX7_isAsked, .static yX7_isAsked, .initialized RX7, .code yX7_isAsked cX7_isAsked 3 (some .boolean), .methodLink RX7 38 yX7_in, .static yX7_in, .code yX7_in cX7_in 3 (some .boolean), .methodLink RX7 90 yX7_fits, .instanceMethod yX7_fits, .selects RX7 yX7_fits yX7_fits, .code yX7_fits cX7_fits 7 (some .boolean), .fieldLink RX7 23 "PulseSignsModel" "restMany" "I", .fieldLink RX7 29 "PulseSignsModel" "readOf" "[I", .fieldLink RX7 26 "PulseSignsModel" "restOf" "[I"] ++ wsX70)
def wsX7_unfolded : List Cond := .code yX7_unfolded cX7_unfolded 7 (some .int) :: ([.methodLink RX7 87 yX7_isAsked, .static yX7_isAsked, .initialized RX7, .code yX7_isAsked cX7_isAsked 3 (some .boolean), .methodLink RX7 38 yX7_in, .static yX7_in, .code yX7_in cX7_in 3 (some .boolean), .methodLink RX7 90 yX7_fits, .instanceMethod yX7_fits, .selects RX7 yX7_fits yX7_fits, .code yX7_fits cX7_fits 7 (some .boolean), .fieldLink RX7 23 "PulseSignsModel" "restMany" "I", .fieldLink RX7 29 "PulseSignsModel" "readOf" "[I", .fieldLink RX7 26 "PulseSignsModel" "restOf" "[I"] ++ wsX70)
def wsX7_shared : List Cond := .code yX7_shared cX7_shared 10 (some .long) :: ([])
def wsX7_common : List Cond := .code yX7_common cX7_common 4 (some .int) :: ([.fieldLink RX7 23 "PulseSignsModel" "restMany" "I", .fieldLink RX7 26 "PulseSignsModel" "restOf" "[I", .methodLink RX7 93 yX7_shared, .static yX7_shared, .initialized RX7, .code yX7_shared cX7_shared 10 (some .long)] ++ wsX70)
def wsX7_blind : List Cond := .code yX7_blind cX7_blind 7 (some .int) :: ([.fieldLink RX7 23 "PulseSignsModel" "restMany" "I", .fieldLink RX7 26 "PulseSignsModel" "restOf" "[I", .methodLink RX7 84 yX7_isRest, .instanceMethod yX7_isRest, .selects RX7 yX7_isRest yX7_isRest, .initialized RX7, .code yX7_isRest cX7_isRest 2 (some .boolean), .methodLink RX7 38 yX7_in, .static yX7_in, .code yX7_in cX7_in 3 (some .boolean)] ++ wsX70)
def wsX7_put : List Cond := .code yX7_put cX7_put 2 (some .int) :: ([.fieldLink RX7 97 "PulseSignsModel" "rowSize" "I", .fieldLink RX7 32 "PulseSignsModel" "row" "[I", .methodLink RX7 38 yX7_in, .static yX7_in, .initialized RX7, .code yX7_in cX7_in 3 (some .boolean)] ++ wsX70)
def wsX7_empty : List Cond := .code yX7_empty cX7_empty 2 (some .int) :: ([.fieldLink RX7 97 "PulseSignsModel" "rowSize" "I"] ++ wsX70)
def wsX7_isNear : List Cond := .code yX7_isNear cX7_isNear 6 (some .boolean) :: ([.methodLink RX7 38 yX7_in, .static yX7_in, .initialized RX7, .code yX7_in cX7_in 3 (some .boolean)])
def wsX7_least : List Cond := .code yX7_least cX7_least 8 (some .int) :: ([.fieldLink RX7 97 "PulseSignsModel" "rowSize" "I", .fieldLink RX7 32 "PulseSignsModel" "row" "[I", .methodLink RX7 100 yX7_isNear, .instanceMethod yX7_isNear, .selects RX7 yX7_isNear yX7_isNear, .initialized RX7, .code yX7_isNear cX7_isNear 6 (some .boolean), .methodLink RX7 38 yX7_in, .static yX7_in, .code yX7_in cX7_in 3 (some .boolean)] ++ wsX70)
def wsX7_isFound : List Cond := .code yX7_isFound cX7_isFound 7 (some .boolean) :: ([.fieldLink RX7 32 "PulseSignsModel" "row" "[I", .methodLink RX7 104 yX7_least, .instanceMethod yX7_least, .selects RX7 yX7_least yX7_least, .initialized RX7, .code yX7_least cX7_least 8 (some .int), .fieldLink RX7 97 "PulseSignsModel" "rowSize" "I", .methodLink RX7 100 yX7_isNear, .instanceMethod yX7_isNear, .selects RX7 yX7_isNear yX7_isNear, .code yX7_isNear cX7_isNear 6 (some .boolean), .methodLink RX7 38 yX7_in, .static yX7_in, .code yX7_in cX7_in 3 (some .boolean)] ++ wsX70)
def wsX7_isScaled : List Cond := .code yX7_isScaled cX7_isScaled 4 (some .boolean) :: ([.methodLink RX7 38 yX7_in, .static yX7_in, .initialized RX7, .code yX7_in cX7_in 3 (some .boolean)])
def wsX7_found : List Cond := .code yX7_found cX7_found 6 (some .int) :: ([.fieldLink RX7 97 "PulseSignsModel" "rowSize" "I", .methodLink RX7 38 yX7_in, .static yX7_in, .initialized RX7, .code yX7_in cX7_in 3 (some .boolean), .methodLink RX7 107 yX7_isScaled, .static yX7_isScaled, .code yX7_isScaled cX7_isScaled 4 (some .boolean), .methodLink RX7 110 yX7_isFound, .instanceMethod yX7_isFound, .selects RX7 yX7_isFound yX7_isFound, .code yX7_isFound cX7_isFound 7 (some .boolean), .fieldLink RX7 32 "PulseSignsModel" "row" "[I", .methodLink RX7 104 yX7_least, .instanceMethod yX7_least, .selects RX7 yX7_least yX7_least, .code yX7_least cX7_least 8 (some .int), .methodLink RX7 100 yX7_isNear, .instanceMethod yX7_isNear, .selects RX7 yX7_isNear yX7_isNear, .code yX7_isNear cX7_isNear 6 (some .boolean)] ++ wsX70)
def wsX7_count : List Cond := .code yX7_count cX7_count 7 (some .int) :: ([.fieldLink RX7 97 "PulseSignsModel" "rowSize" "I", .methodLink RX7 107 yX7_isScaled, .static yX7_isScaled, .initialized RX7, .code yX7_isScaled cX7_isScaled 4 (some .boolean), .methodLink RX7 38 yX7_in, .static yX7_in, .code yX7_in cX7_in 3 (some .boolean), .methodLink RX7 110 yX7_isFound, .instanceMethod yX7_isFound, .selects RX7 yX7_isFound yX7_isFound, .code yX7_isFound cX7_isFound 7 (some .boolean), .fieldLink RX7 32 "PulseSignsModel" "row" "[I", .methodLink RX7 104 yX7_least, .instanceMethod yX7_least, .selects RX7 yX7_least yX7_least, .code yX7_least cX7_least 8 (some .int), .methodLink RX7 100 yX7_isNear, .instanceMethod yX7_isNear, .selects RX7 yX7_isNear yX7_isNear, .code yX7_isNear cX7_isNear 6 (some .boolean)] ++ wsX70)
def wsX7_falses : List Cond := .code yX7_falses cX7_falses 5 none :: ([.fieldLink RX7 114 "PulseSignsModel" "above" "J", .fieldLink RX7 118 "PulseSignsModel" "below" "J"] ++ wsX70)
def wsX7_share : List Cond := .code yX7_share cX7_share 7 (some .long) :: ([.constantLong RX7 121 (-102), .fieldLink RX7 114 "PulseSignsModel" "above" "J", .fieldLink RX7 118 "PulseSignsModel" "below" "J", .methodLink RX7 38 yX7_in, .static yX7_in, .initialized RX7, .code yX7_in cX7_in 3 (some .boolean), .methodLink RX7 123 yX7_falses, .instanceMethod yX7_falses, .selects RX7 yX7_falses yX7_falses, .code yX7_falses cX7_falses 5 none, .methodLink RX7 93 yX7_shared, .static yX7_shared, .code yX7_shared cX7_shared 10 (some .long)] ++ wsX70)
def wsX7_scale : List Cond := .code yX7_scale cX7_scale 5 (some .int) :: ([.constant RX7 126 (1000000000), .fieldLink RX7 114 "PulseSignsModel" "above" "J", .fieldLink RX7 118 "PulseSignsModel" "below" "J", .methodLink RX7 38 yX7_in, .static yX7_in, .initialized RX7, .code yX7_in cX7_in 3 (some .boolean), .methodLink RX7 123 yX7_falses, .instanceMethod yX7_falses, .selects RX7 yX7_falses yX7_falses, .code yX7_falses cX7_falses 5 none] ++ wsX70)
def wsX7_told : List Cond := .code yX7_told cX7_told 2 (some .int) :: ([.fieldLink RX7 16 "PulseSignsModel" "filterSize" "I", .fieldLink RX7 23 "PulseSignsModel" "restMany" "I", .fieldLink RX7 97 "PulseSignsModel" "rowSize" "I", .fieldLink RX7 67 "PulseSignsModel" "bests" "I"] ++ wsX70)
def wsX7_mix : List Cond := .code yX7_mix cX7_mix 3 none :: ([.constantLong RX7 127 (31), .fieldLink RX7 129 "PulseSignsModel" "h" "J"] ++ wsX70)
def wsX7_digest : List Cond := .code yX7_digest cX7_digest 3 (some .long) :: ([.constantLong RX7 132 (181), .fieldLink RX7 129 "PulseSignsModel" "h" "J", .fieldLink RX7 7 "PulseSignsModel" "sizes" "[I", .fieldLink RX7 13 "PulseSignsModel" "turns" "[I", .fieldLink RX7 16 "PulseSignsModel" "filterSize" "I", .fieldLink RX7 20 "PulseSignsModel" "weights" "[I", .fieldLink RX7 23 "PulseSignsModel" "restMany" "I", .fieldLink RX7 26 "PulseSignsModel" "restOf" "[I", .fieldLink RX7 29 "PulseSignsModel" "readOf" "[I", .fieldLink RX7 97 "PulseSignsModel" "rowSize" "I", .fieldLink RX7 32 "PulseSignsModel" "row" "[I", .fieldLink RX7 67 "PulseSignsModel" "bests" "I", .methodLink RX7 134 yX7_mix, .instanceMethod yX7_mix, .selects RX7 yX7_mix yX7_mix, .initialized RX7, .code yX7_mix cX7_mix 3 none, .constantLong RX7 127 (31)] ++ wsX70)
def wsJ9_abs_0f7a4 : List Cond := .code yJ9_abs_0f7a4 cJ9_abs_0f7a4 1 (some .int) :: ([])
def wsJ9_max_7cf53 : List Cond := .code yJ9_max_7cf53 cJ9_max_7cf53 2 (some .int) :: ([])
def wsJ9_min_7cf53 : List Cond := .code yJ9_min_7cf53 cJ9_min_7cf53 2 (some .int) :: ([])
abbrev vwCl : List vw_C := [(RX1, TX1, 2), (RX2, TX2, 3), (RX3, TX3, 3), (RX5, TX5, 2), (RX6, TX6, 5), (RX7, TX7, 16)]
end
section
set_option maxRecDepth 20000 in
theorem ggX0_mayOrder_X6_within : GoodIn wsX0_mayOrder wsX6_within := goodIn_r _ [3] (by decide +kernel) (by decide +kernel)
set_option maxRecDepth 20000 in
theorem gX0_mayOrder_X6_within_n11 : GoodIn wsX0_mayOrder (wsX6_within) := ggX0_mayOrder_X6_within
theorem dX0_mayOrder_0 : decode cX0_mayOrder 0 = .ok (.iload_n 0, 1) := by decide +kernel
theorem dX0_mayOrder_1 : decode cX0_mayOrder 1 = .ok (.iconst 1, 1) := by decide +kernel
theorem dX0_mayOrder_2 : decode cX0_mayOrder 2 = .ok (.bipush 8, 2) := by decide +kernel
theorem dX0_mayOrder_4 : decode cX0_mayOrder 4 = .ok (.invokestatic 11, 3) := by decide +kernel
theorem dX0_mayOrder_7 : decode cX0_mayOrder 7 = .ok (.ifCond .eq 16, 3) := by decide +kernel
theorem dX0_mayOrder_10 : decode cX0_mayOrder 10 = .ok (.iload_n 1, 1) := by decide +kernel
theorem dX0_mayOrder_11 : decode cX0_mayOrder 11 = .ok (.iconst 1, 1) := by decide +kernel
theorem dX0_mayOrder_12 : decode cX0_mayOrder 12 = .ok (.iload_n 0, 1) := by decide +kernel
theorem dX0_mayOrder_13 : decode cX0_mayOrder 13 = .ok (.invokestatic 11, 3) := by decide +kernel
theorem dX0_mayOrder_16 : decode cX0_mayOrder 16 = .ok (.ifCond .eq 7, 3) := by decide +kernel
theorem dX0_mayOrder_19 : decode cX0_mayOrder 19 = .ok (.iconst 1, 1) := by decide +kernel
theorem dX0_mayOrder_20 : decode cX0_mayOrder 20 = .ok (.goto 4, 3) := by decide +kernel
theorem dX0_mayOrder_23 : decode cX0_mayOrder 23 = .ok (.iconst 0, 1) := by decide +kernel
theorem dX0_mayOrder_24 : decode cX0_mayOrder 24 = .ok (.ireturn, 1) := by decide +kernel
theorem dX0_product_0 : decode cX0_product 0 = .ok (.lconst 1, 1) := by decide +kernel
theorem dX0_product_1 : decode cX0_product 1 = .ok (.lstore_n 3, 1) := by decide +kernel
theorem dX0_product_2 : decode cX0_product 2 = .ok (.iconst 0, 1) := by decide +kernel
theorem dX0_product_3 : decode cX0_product 3 = .ok (.istore 5, 2) := by decide +kernel
theorem dX0_product_5 : decode cX0_product 5 = .ok (.iload 5, 2) := by decide +kernel
theorem dX0_product_7 : decode cX0_product 7 = .ok (.iload_n 1, 1) := by decide +kernel
theorem dX0_product_8 : decode cX0_product 8 = .ok (.if_icmp .ge 19, 3) := by decide +kernel
theorem dX0_product_11 : decode cX0_product 11 = .ok (.lload_n 3, 1) := by decide +kernel
theorem dX0_product_12 : decode cX0_product 12 = .ok (.iload_n 0, 1) := by decide +kernel
theorem dX0_product_13 : decode cX0_product 13 = .ok (.iload 5, 2) := by decide +kernel
theorem dX0_product_15 : decode cX0_product 15 = .ok (.isub, 1) := by decide +kernel
theorem dX0_product_16 : decode cX0_product 16 = .ok (.iload_n 2, 1) := by decide +kernel
theorem dX0_product_17 : decode cX0_product 17 = .ok (.iadd, 1) := by decide +kernel
theorem dX0_product_18 : decode cX0_product 18 = .ok (.i2l, 1) := by decide +kernel
theorem dX0_product_19 : decode cX0_product 19 = .ok (.lmul, 1) := by decide +kernel
theorem dX0_product_20 : decode cX0_product 20 = .ok (.lstore_n 3, 1) := by decide +kernel
theorem dX0_product_21 : decode cX0_product 21 = .ok (.iinc 5 1, 3) := by decide +kernel
theorem dX0_product_24 : decode cX0_product 24 = .ok (.goto (-19), 3) := by decide +kernel
theorem dX0_product_27 : decode cX0_product 27 = .ok (.lload_n 3, 1) := by decide +kernel
theorem dX0_product_28 : decode cX0_product 28 = .ok (.lreturn, 1) := by decide +kernel
set_option maxRecDepth 20000 in
theorem ggX0_leastScale_X0_product : GoodIn wsX0_leastScale wsX0_product := goodIn_r _ [4] (by decide +kernel) (by decide +kernel)
set_option maxRecDepth 20000 in
theorem gX0_leastScale_X0_product : GoodIn wsX0_leastScale (va_wsS RX0 15 yX0_product wsX0_product) := goodIn_app (goodIn_of _ (by decide +kernel)) ggX0_leastScale_X0_product
theorem dX0_leastScale_0 : decode cX0_leastScale 0 = .ok (.iload_n 0, 1) := by decide +kernel
theorem dX0_leastScale_1 : decode cX0_leastScale 1 = .ok (.iload_n 1, 1) := by decide +kernel
theorem dX0_leastScale_2 : decode cX0_leastScale 2 = .ok (.iconst 0, 1) := by decide +kernel
theorem dX0_leastScale_3 : decode cX0_leastScale 3 = .ok (.invokestatic 15, 3) := by decide +kernel
theorem dX0_leastScale_6 : decode cX0_leastScale 6 = .ok (.lstore_n 3, 1) := by decide +kernel
theorem dX0_leastScale_7 : decode cX0_leastScale 7 = .ok (.iconst 1, 1) := by decide +kernel
theorem dX0_leastScale_8 : decode cX0_leastScale 8 = .ok (.istore 5, 2) := by decide +kernel
theorem dX0_leastScale_10 : decode cX0_leastScale 10 = .ok (.iload 5, 2) := by decide +kernel
theorem dX0_leastScale_12 : decode cX0_leastScale 12 = .ok (.bipush 40, 2) := by decide +kernel
theorem dX0_leastScale_14 : decode cX0_leastScale 14 = .ok (.if_icmp .gt 27, 3) := by decide +kernel
theorem dX0_leastScale_17 : decode cX0_leastScale 17 = .ok (.lload_n 3, 1) := by decide +kernel
theorem dX0_leastScale_18 : decode cX0_leastScale 18 = .ok (.iload_n 2, 1) := by decide +kernel
theorem dX0_leastScale_19 : decode cX0_leastScale 19 = .ok (.i2l, 1) := by decide +kernel
theorem dX0_leastScale_20 : decode cX0_leastScale 20 = .ok (.lmul, 1) := by decide +kernel
theorem dX0_leastScale_21 : decode cX0_leastScale 21 = .ok (.iload_n 0, 1) := by decide +kernel
theorem dX0_leastScale_22 : decode cX0_leastScale 22 = .ok (.iload_n 1, 1) := by decide +kernel
theorem dX0_leastScale_23 : decode cX0_leastScale 23 = .ok (.iload 5, 2) := by decide +kernel
theorem dX0_leastScale_25 : decode cX0_leastScale 25 = .ok (.invokestatic 15, 3) := by decide +kernel
theorem dX0_leastScale_28 : decode cX0_leastScale 28 = .ok (.lcmp, 1) := by decide +kernel
theorem dX0_leastScale_29 : decode cX0_leastScale 29 = .ok (.ifCond .gt 6, 3) := by decide +kernel
theorem dX0_leastScale_32 : decode cX0_leastScale 32 = .ok (.iload 5, 2) := by decide +kernel
theorem dX0_leastScale_34 : decode cX0_leastScale 34 = .ok (.ireturn, 1) := by decide +kernel
theorem dX0_leastScale_35 : decode cX0_leastScale 35 = .ok (.iinc 5 1, 3) := by decide +kernel
theorem dX0_leastScale_38 : decode cX0_leastScale 38 = .ok (.goto (-28), 3) := by decide +kernel
theorem dX0_leastScale_41 : decode cX0_leastScale 41 = .ok (.iconst (-1), 1) := by decide +kernel
theorem dX0_leastScale_42 : decode cX0_leastScale 42 = .ok (.ireturn, 1) := by decide +kernel
theorem dX1_init_0 : decode cX1_init 0 = .ok (.aload_n 0, 1) := by decide +kernel
theorem dX1_init_1 : decode cX1_init 1 = .ok (.invokespecial 1, 3) := by decide +kernel
theorem dX1_init_4 : decode cX1_init 4 = .ok (.aload_n 0, 1) := by decide +kernel
theorem dX1_init_5 : decode cX1_init 5 = .ok (.bipush 24, 2) := by decide +kernel
theorem dX1_init_7 : decode cX1_init 7 = .ok (.newarray .int, 2) := by decide +kernel
theorem dX1_init_9 : decode cX1_init 9 = .ok (.putfield 9, 3) := by decide +kernel
theorem dX1_init_12 : decode cX1_init 12 = .ok (.aload_n 0, 1) := by decide +kernel
theorem dX1_init_13 : decode cX1_init 13 = .ok (.iconst 1, 1) := by decide +kernel
theorem dX1_init_14 : decode cX1_init 14 = .ok (.putfield 13, 3) := by decide +kernel
theorem dX1_init_17 : decode cX1_init 17 = .ok (.aload_n 0, 1) := by decide +kernel
theorem dX1_init_18 : decode cX1_init 18 = .ok (.getfield 9, 3) := by decide +kernel
theorem dX1_init_21 : decode cX1_init 21 = .ok (.iconst 0, 1) := by decide +kernel
theorem dX1_init_22 : decode cX1_init 22 = .ok (.iconst 1, 1) := by decide +kernel
theorem dX1_init_23 : decode cX1_init 23 = .ok (.iastore, 1) := by decide +kernel
theorem dX1_init_24 : decode cX1_init 24 = .ok (.return_, 1) := by decide +kernel
theorem dX1_reset_0 : decode cX1_reset 0 = .ok (.aload_n 0, 1) := by decide +kernel
theorem dX1_reset_1 : decode cX1_reset 1 = .ok (.iload_n 1, 1) := by decide +kernel
theorem dX1_reset_2 : decode cX1_reset 2 = .ok (.putfield 13, 3) := by decide +kernel
theorem dX1_reset_5 : decode cX1_reset 5 = .ok (.iconst 0, 1) := by decide +kernel
theorem dX1_reset_6 : decode cX1_reset 6 = .ok (.istore_n 2, 1) := by decide +kernel
theorem dX1_reset_7 : decode cX1_reset 7 = .ok (.iload_n 2, 1) := by decide +kernel
theorem dX1_reset_8 : decode cX1_reset 8 = .ok (.iload_n 1, 1) := by decide +kernel
theorem dX1_reset_9 : decode cX1_reset 9 = .ok (.if_icmp .ge 16, 3) := by decide +kernel
theorem dX1_reset_12 : decode cX1_reset 12 = .ok (.aload_n 0, 1) := by decide +kernel
theorem dX1_reset_13 : decode cX1_reset 13 = .ok (.getfield 9, 3) := by decide +kernel
theorem dX1_reset_16 : decode cX1_reset 16 = .ok (.iload_n 2, 1) := by decide +kernel
theorem dX1_reset_17 : decode cX1_reset 17 = .ok (.iconst 0, 1) := by decide +kernel
theorem dX1_reset_18 : decode cX1_reset 18 = .ok (.iastore, 1) := by decide +kernel
theorem dX1_reset_19 : decode cX1_reset 19 = .ok (.iinc 2 1, 3) := by decide +kernel
theorem dX1_reset_22 : decode cX1_reset 22 = .ok (.goto (-15), 3) := by decide +kernel
theorem dX1_reset_25 : decode cX1_reset 25 = .ok (.return_, 1) := by decide +kernel
set_option maxRecDepth 20000 in
theorem ggX1_matchTo_X6_partOfTurn : GoodIn wsX1_matchTo wsX6_partOfTurn := goodIn_r _ [7] (by decide +kernel) (by decide +kernel)
set_option maxRecDepth 20000 in
theorem gX1_matchTo_X6_partOfTurn_n23 : GoodIn wsX1_matchTo (wsX6_partOfTurn) := ggX1_matchTo_X6_partOfTurn
theorem dX1_matchTo_0 : decode cX1_matchTo 0 = .ok (.aload_n 0, 1) := by decide +kernel
theorem dX1_matchTo_1 : decode cX1_matchTo 1 = .ok (.aload_n 1, 1) := by decide +kernel
theorem dX1_matchTo_2 : decode cX1_matchTo 2 = .ok (.getfield 17, 3) := by decide +kernel
theorem dX1_matchTo_5 : decode cX1_matchTo 5 = .ok (.putfield 13, 3) := by decide +kernel
theorem dX1_matchTo_8 : decode cX1_matchTo 8 = .ok (.iconst 0, 1) := by decide +kernel
theorem dX1_matchTo_9 : decode cX1_matchTo 9 = .ok (.istore_n 2, 1) := by decide +kernel
theorem dX1_matchTo_10 : decode cX1_matchTo 10 = .ok (.iload_n 2, 1) := by decide +kernel
theorem dX1_matchTo_11 : decode cX1_matchTo 11 = .ok (.aload_n 1, 1) := by decide +kernel
theorem dX1_matchTo_12 : decode cX1_matchTo 12 = .ok (.getfield 17, 3) := by decide +kernel
theorem dX1_matchTo_15 : decode cX1_matchTo 15 = .ok (.if_icmp .ge 33, 3) := by decide +kernel
theorem dX1_matchTo_18 : decode cX1_matchTo 18 = .ok (.aload_n 0, 1) := by decide +kernel
theorem dX1_matchTo_19 : decode cX1_matchTo 19 = .ok (.getfield 9, 3) := by decide +kernel
theorem dX1_matchTo_22 : decode cX1_matchTo 22 = .ok (.iload_n 2, 1) := by decide +kernel
theorem dX1_matchTo_23 : decode cX1_matchTo 23 = .ok (.aload_n 1, 1) := by decide +kernel
theorem dX1_matchTo_24 : decode cX1_matchTo 24 = .ok (.getfield 20, 3) := by decide +kernel
theorem dX1_matchTo_27 : decode cX1_matchTo 27 = .ok (.aload_n 1, 1) := by decide +kernel
theorem dX1_matchTo_28 : decode cX1_matchTo 28 = .ok (.getfield 17, 3) := by decide +kernel
theorem dX1_matchTo_31 : decode cX1_matchTo 31 = .ok (.iconst 1, 1) := by decide +kernel
theorem dX1_matchTo_32 : decode cX1_matchTo 32 = .ok (.isub, 1) := by decide +kernel
theorem dX1_matchTo_33 : decode cX1_matchTo 33 = .ok (.iload_n 2, 1) := by decide +kernel
theorem dX1_matchTo_34 : decode cX1_matchTo 34 = .ok (.isub, 1) := by decide +kernel
theorem dX1_matchTo_35 : decode cX1_matchTo 35 = .ok (.iaload, 1) := by decide +kernel
theorem dX1_matchTo_36 : decode cX1_matchTo 36 = .ok (.ineg, 1) := by decide +kernel
theorem dX1_matchTo_37 : decode cX1_matchTo 37 = .ok (.iconst 0, 1) := by decide +kernel
theorem dX1_matchTo_38 : decode cX1_matchTo 38 = .ok (.invokestatic 23, 3) := by decide +kernel
theorem dX1_matchTo_41 : decode cX1_matchTo 41 = .ok (.iastore, 1) := by decide +kernel
theorem dX1_matchTo_42 : decode cX1_matchTo 42 = .ok (.iinc 2 1, 3) := by decide +kernel
theorem dX1_matchTo_45 : decode cX1_matchTo 45 = .ok (.goto (-35), 3) := by decide +kernel
theorem dX1_matchTo_48 : decode cX1_matchTo 48 = .ok (.return_, 1) := by decide +kernel
set_option maxRecDepth 20000 in
theorem ggX1_answerPart_X5_has : GoodIn wsX1_answerPart wsX5_has := goodIn_r _ [8, 9, 10, 11, 12, 17, 18] (by decide +kernel) (by decide +kernel)
set_option maxRecDepth 20000 in
theorem gX1_answerPart_X5_has : GoodIn wsX1_answerPart (wsV RX1 29 RX5 yX5_has wsX5_has) := goodIn_app (goodIn_of _ (by decide +kernel)) ggX1_answerPart_X5_has
set_option maxRecDepth 20000 in
theorem ggX1_answerPart_X6_partOfTurn : GoodIn wsX1_answerPart wsX6_partOfTurn := goodIn_r _ [14] (by decide +kernel) (by decide +kernel)
set_option maxRecDepth 20000 in
theorem gX1_answerPart_X6_partOfTurn_n23 : GoodIn wsX1_answerPart (wsX6_partOfTurn) := ggX1_answerPart_X6_partOfTurn
theorem dX1_answerPart_0 : decode cX1_answerPart 0 = .ok (.iconst 0, 1) := by decide +kernel
theorem dX1_answerPart_1 : decode cX1_answerPart 1 = .ok (.istore 4, 2) := by decide +kernel
theorem dX1_answerPart_3 : decode cX1_answerPart 3 = .ok (.iconst 0, 1) := by decide +kernel
theorem dX1_answerPart_4 : decode cX1_answerPart 4 = .ok (.istore 5, 2) := by decide +kernel
theorem dX1_answerPart_6 : decode cX1_answerPart 6 = .ok (.iload 5, 2) := by decide +kernel
theorem dX1_answerPart_8 : decode cX1_answerPart 8 = .ok (.aload_n 0, 1) := by decide +kernel
theorem dX1_answerPart_9 : decode cX1_answerPart 9 = .ok (.getfield 13, 3) := by decide +kernel
theorem dX1_answerPart_12 : decode cX1_answerPart 12 = .ok (.if_icmp .ge 46, 3) := by decide +kernel
theorem dX1_answerPart_15 : decode cX1_answerPart 15 = .ok (.aload_n 1, 1) := by decide +kernel
theorem dX1_answerPart_16 : decode cX1_answerPart 16 = .ok (.iload_n 2, 1) := by decide +kernel
theorem dX1_answerPart_17 : decode cX1_answerPart 17 = .ok (.iload 5, 2) := by decide +kernel
theorem dX1_answerPart_19 : decode cX1_answerPart 19 = .ok (.isub, 1) := by decide +kernel
theorem dX1_answerPart_20 : decode cX1_answerPart 20 = .ok (.invokevirtual 29, 3) := by decide +kernel
theorem dX1_answerPart_23 : decode cX1_answerPart 23 = .ok (.ifCond .eq 29, 3) := by decide +kernel
theorem dX1_answerPart_26 : decode cX1_answerPart 26 = .ok (.iload 4, 2) := by decide +kernel
theorem dX1_answerPart_28 : decode cX1_answerPart 28 = .ok (.aload_n 0, 1) := by decide +kernel
theorem dX1_answerPart_29 : decode cX1_answerPart 29 = .ok (.getfield 9, 3) := by decide +kernel
theorem dX1_answerPart_32 : decode cX1_answerPart 32 = .ok (.iload 5, 2) := by decide +kernel
theorem dX1_answerPart_34 : decode cX1_answerPart 34 = .ok (.iaload, 1) := by decide +kernel
theorem dX1_answerPart_35 : decode cX1_answerPart 35 = .ok (.aload_n 1, 1) := by decide +kernel
theorem dX1_answerPart_36 : decode cX1_answerPart 36 = .ok (.getfield 20, 3) := by decide +kernel
theorem dX1_answerPart_39 : decode cX1_answerPart 39 = .ok (.iload_n 2, 1) := by decide +kernel
theorem dX1_answerPart_40 : decode cX1_answerPart 40 = .ok (.iload 5, 2) := by decide +kernel
theorem dX1_answerPart_42 : decode cX1_answerPart 42 = .ok (.isub, 1) := by decide +kernel
theorem dX1_answerPart_43 : decode cX1_answerPart 43 = .ok (.iaload, 1) := by decide +kernel
theorem dX1_answerPart_44 : decode cX1_answerPart 44 = .ok (.iload_n 3, 1) := by decide +kernel
theorem dX1_answerPart_45 : decode cX1_answerPart 45 = .ok (.invokestatic 23, 3) := by decide +kernel
theorem dX1_answerPart_48 : decode cX1_answerPart 48 = .ok (.imul, 1) := by decide +kernel
theorem dX1_answerPart_49 : decode cX1_answerPart 49 = .ok (.iadd, 1) := by decide +kernel
theorem dX1_answerPart_50 : decode cX1_answerPart 50 = .ok (.istore 4, 2) := by decide +kernel
theorem dX1_answerPart_52 : decode cX1_answerPart 52 = .ok (.iinc 5 1, 3) := by decide +kernel
theorem dX1_answerPart_55 : decode cX1_answerPart 55 = .ok (.goto (-49), 3) := by decide +kernel
theorem dX1_answerPart_58 : decode cX1_answerPart 58 = .ok (.iload 4, 2) := by decide +kernel
theorem dX1_answerPart_60 : decode cX1_answerPart 60 = .ok (.ireturn, 1) := by decide +kernel
set_option maxRecDepth 20000 in
theorem ggX1_answerSize_X1_answerPart : GoodIn wsX1_answerSize wsX1_answerPart := goodIn_r _ [5, 6, 7, 8, 9, 10, 11, 12, 13, 14, 15, 16, 17, 18, 19, 20, 21, 22, 23] (by decide +kernel) (by decide +kernel)
set_option maxRecDepth 20000 in
theorem gX1_answerSize_X1_answerPart : GoodIn wsX1_answerSize (wsV RX1 33 RX1 yX1_answerPart wsX1_answerPart) := goodIn_app (goodIn_of _ (by decide +kernel)) ggX1_answerSize_X1_answerPart
theorem dX1_answerSize_0 : decode cX1_answerSize 0 = .ok (.aload_n 0, 1) := by decide +kernel
theorem dX1_answerSize_1 : decode cX1_answerSize 1 = .ok (.aload_n 1, 1) := by decide +kernel
theorem dX1_answerSize_2 : decode cX1_answerSize 2 = .ok (.iload_n 2, 1) := by decide +kernel
theorem dX1_answerSize_3 : decode cX1_answerSize 3 = .ok (.iconst 0, 1) := by decide +kernel
theorem dX1_answerSize_4 : decode cX1_answerSize 4 = .ok (.invokevirtual 33, 3) := by decide +kernel
theorem dX1_answerSize_7 : decode cX1_answerSize 7 = .ok (.istore_n 3, 1) := by decide +kernel
theorem dX1_answerSize_8 : decode cX1_answerSize 8 = .ok (.aload_n 0, 1) := by decide +kernel
theorem dX1_answerSize_9 : decode cX1_answerSize 9 = .ok (.aload_n 1, 1) := by decide +kernel
theorem dX1_answerSize_10 : decode cX1_answerSize 10 = .ok (.iload_n 2, 1) := by decide +kernel
theorem dX1_answerSize_11 : decode cX1_answerSize 11 = .ok (.iconst 1, 1) := by decide +kernel
theorem dX1_answerSize_12 : decode cX1_answerSize 12 = .ok (.invokevirtual 33, 3) := by decide +kernel
theorem dX1_answerSize_15 : decode cX1_answerSize 15 = .ok (.istore 4, 2) := by decide +kernel
theorem dX1_answerSize_17 : decode cX1_answerSize 17 = .ok (.iload_n 3, 1) := by decide +kernel
theorem dX1_answerSize_18 : decode cX1_answerSize 18 = .ok (.iload_n 3, 1) := by decide +kernel
theorem dX1_answerSize_19 : decode cX1_answerSize 19 = .ok (.imul, 1) := by decide +kernel
theorem dX1_answerSize_20 : decode cX1_answerSize 20 = .ok (.iload 4, 2) := by decide +kernel
theorem dX1_answerSize_22 : decode cX1_answerSize 22 = .ok (.iload 4, 2) := by decide +kernel
theorem dX1_answerSize_24 : decode cX1_answerSize 24 = .ok (.imul, 1) := by decide +kernel
theorem dX1_answerSize_25 : decode cX1_answerSize 25 = .ok (.iadd, 1) := by decide +kernel
theorem dX1_answerSize_26 : decode cX1_answerSize 26 = .ok (.ireturn, 1) := by decide +kernel
set_option maxRecDepth 20000 in
theorem ggX1_greatestPlace_X1_answerSize : GoodIn wsX1_greatestPlace wsX1_answerSize := goodIn_r _ [7, 8, 9, 10, 6, 11, 1, 12, 13, 14, 15, 16, 17, 18, 19, 20, 21, 22, 23, 24, 25, 26, 27, 28] (by decide +kernel) (by decide +kernel)
set_option maxRecDepth 20000 in
theorem gX1_greatestPlace_X1_answerSize : GoodIn wsX1_greatestPlace (wsV RX1 37 RX1 yX1_answerSize wsX1_answerSize) := goodIn_app (goodIn_of _ (by decide +kernel)) ggX1_greatestPlace_X1_answerSize
theorem dX1_greatestPlace_0 : decode cX1_greatestPlace 0 = .ok (.iconst 0, 1) := by decide +kernel
theorem dX1_greatestPlace_1 : decode cX1_greatestPlace 1 = .ok (.istore_n 2, 1) := by decide +kernel
theorem dX1_greatestPlace_2 : decode cX1_greatestPlace 2 = .ok (.aload_n 0, 1) := by decide +kernel
theorem dX1_greatestPlace_3 : decode cX1_greatestPlace 3 = .ok (.aload_n 1, 1) := by decide +kernel
theorem dX1_greatestPlace_4 : decode cX1_greatestPlace 4 = .ok (.iconst 0, 1) := by decide +kernel
theorem dX1_greatestPlace_5 : decode cX1_greatestPlace 5 = .ok (.invokevirtual 37, 3) := by decide +kernel
theorem dX1_greatestPlace_8 : decode cX1_greatestPlace 8 = .ok (.istore_n 3, 1) := by decide +kernel
theorem dX1_greatestPlace_9 : decode cX1_greatestPlace 9 = .ok (.iconst 1, 1) := by decide +kernel
theorem dX1_greatestPlace_10 : decode cX1_greatestPlace 10 = .ok (.istore 4, 2) := by decide +kernel
theorem dX1_greatestPlace_12 : decode cX1_greatestPlace 12 = .ok (.iload 4, 2) := by decide +kernel
theorem dX1_greatestPlace_14 : decode cX1_greatestPlace 14 = .ok (.aload_n 0, 1) := by decide +kernel
theorem dX1_greatestPlace_15 : decode cX1_greatestPlace 15 = .ok (.getfield 13, 3) := by decide +kernel
theorem dX1_greatestPlace_18 : decode cX1_greatestPlace 18 = .ok (.aload_n 1, 1) := by decide +kernel
theorem dX1_greatestPlace_19 : decode cX1_greatestPlace 19 = .ok (.getfield 17, 3) := by decide +kernel
theorem dX1_greatestPlace_22 : decode cX1_greatestPlace 22 = .ok (.iadd, 1) := by decide +kernel
theorem dX1_greatestPlace_23 : decode cX1_greatestPlace 23 = .ok (.iconst 1, 1) := by decide +kernel
theorem dX1_greatestPlace_24 : decode cX1_greatestPlace 24 = .ok (.isub, 1) := by decide +kernel
theorem dX1_greatestPlace_25 : decode cX1_greatestPlace 25 = .ok (.if_icmp .ge 30, 3) := by decide +kernel
theorem dX1_greatestPlace_28 : decode cX1_greatestPlace 28 = .ok (.aload_n 0, 1) := by decide +kernel
theorem dX1_greatestPlace_29 : decode cX1_greatestPlace 29 = .ok (.aload_n 1, 1) := by decide +kernel
theorem dX1_greatestPlace_30 : decode cX1_greatestPlace 30 = .ok (.iload 4, 2) := by decide +kernel
theorem dX1_greatestPlace_32 : decode cX1_greatestPlace 32 = .ok (.invokevirtual 37, 3) := by decide +kernel
theorem dX1_greatestPlace_35 : decode cX1_greatestPlace 35 = .ok (.istore 5, 2) := by decide +kernel
theorem dX1_greatestPlace_37 : decode cX1_greatestPlace 37 = .ok (.iload 5, 2) := by decide +kernel
theorem dX1_greatestPlace_39 : decode cX1_greatestPlace 39 = .ok (.iload_n 3, 1) := by decide +kernel
theorem dX1_greatestPlace_40 : decode cX1_greatestPlace 40 = .ok (.if_icmp .le 9, 3) := by decide +kernel
theorem dX1_greatestPlace_43 : decode cX1_greatestPlace 43 = .ok (.iload 4, 2) := by decide +kernel
theorem dX1_greatestPlace_45 : decode cX1_greatestPlace 45 = .ok (.istore_n 2, 1) := by decide +kernel
theorem dX1_greatestPlace_46 : decode cX1_greatestPlace 46 = .ok (.iload 5, 2) := by decide +kernel
theorem dX1_greatestPlace_48 : decode cX1_greatestPlace 48 = .ok (.istore_n 3, 1) := by decide +kernel
theorem dX1_greatestPlace_49 : decode cX1_greatestPlace 49 = .ok (.iinc 4 1, 3) := by decide +kernel
theorem dX1_greatestPlace_52 : decode cX1_greatestPlace 52 = .ok (.goto (-40), 3) := by decide +kernel
theorem dX1_greatestPlace_55 : decode cX1_greatestPlace 55 = .ok (.iload_n 2, 1) := by decide +kernel
theorem dX1_greatestPlace_56 : decode cX1_greatestPlace 56 = .ok (.ireturn, 1) := by decide +kernel
set_option maxRecDepth 20000 in
theorem ggX1_clearness_X1_greatestPlace : GoodIn wsX1_clearness wsX1_greatestPlace := goodIn_r _ [12, 1, 2, 13, 14, 15, 11, 16, 17, 18, 19, 20, 21, 22, 23, 24, 25, 26, 27, 28, 29, 30, 31, 32, 33, 34, 35, 36, 37] (by decide +kernel) (by decide +kernel)
set_option maxRecDepth 20000 in
theorem gX1_clearness_X1_greatestPlace : GoodIn wsX1_clearness (wsV RX1 41 RX1 yX1_greatestPlace wsX1_greatestPlace) := goodIn_app (goodIn_of _ (by decide +kernel)) ggX1_clearness_X1_greatestPlace
set_option maxRecDepth 20000 in
theorem ggX1_clearness_X1_answerSize : GoodIn wsX1_clearness wsX1_answerSize := goodIn_r _ [16, 17, 18, 19, 11, 20, 1, 21, 22, 23, 24, 25, 26, 27, 28, 29, 30, 31, 32, 33, 34, 35, 36, 37] (by decide +kernel) (by decide +kernel)
set_option maxRecDepth 20000 in
theorem gX1_clearness_X1_answerSize : GoodIn wsX1_clearness (wsV RX1 37 RX1 yX1_answerSize wsX1_answerSize) := goodIn_app (goodIn_of _ (by decide +kernel)) ggX1_clearness_X1_answerSize
theorem dX1_clearness_0 : decode cX1_clearness 0 = .ok (.aload_n 0, 1) := by decide +kernel
theorem dX1_clearness_1 : decode cX1_clearness 1 = .ok (.aload_n 1, 1) := by decide +kernel
theorem dX1_clearness_2 : decode cX1_clearness 2 = .ok (.invokevirtual 41, 3) := by decide +kernel
theorem dX1_clearness_5 : decode cX1_clearness 5 = .ok (.istore_n 2, 1) := by decide +kernel
theorem dX1_clearness_6 : decode cX1_clearness 6 = .ok (.aload_n 0, 1) := by decide +kernel
theorem dX1_clearness_7 : decode cX1_clearness 7 = .ok (.aload_n 1, 1) := by decide +kernel
theorem dX1_clearness_8 : decode cX1_clearness 8 = .ok (.iload_n 2, 1) := by decide +kernel
theorem dX1_clearness_9 : decode cX1_clearness 9 = .ok (.invokevirtual 37, 3) := by decide +kernel
theorem dX1_clearness_12 : decode cX1_clearness 12 = .ok (.istore_n 3, 1) := by decide +kernel
theorem dX1_clearness_13 : decode cX1_clearness 13 = .ok (.iload_n 3, 1) := by decide +kernel
theorem dX1_clearness_14 : decode cX1_clearness 14 = .ok (.ifCond .ne 5, 3) := by decide +kernel
theorem dX1_clearness_17 : decode cX1_clearness 17 = .ok (.iconst 0, 1) := by decide +kernel
theorem dX1_clearness_18 : decode cX1_clearness 18 = .ok (.ireturn, 1) := by decide +kernel
theorem dX1_clearness_19 : decode cX1_clearness 19 = .ok (.iconst 0, 1) := by decide +kernel
theorem dX1_clearness_20 : decode cX1_clearness 20 = .ok (.istore 4, 2) := by decide +kernel
theorem dX1_clearness_22 : decode cX1_clearness 22 = .ok (.iconst 0, 1) := by decide +kernel
theorem dX1_clearness_23 : decode cX1_clearness 23 = .ok (.istore 5, 2) := by decide +kernel
theorem dX1_clearness_25 : decode cX1_clearness 25 = .ok (.iload 5, 2) := by decide +kernel
theorem dX1_clearness_27 : decode cX1_clearness 27 = .ok (.aload_n 0, 1) := by decide +kernel
theorem dX1_clearness_28 : decode cX1_clearness 28 = .ok (.getfield 13, 3) := by decide +kernel
theorem dX1_clearness_31 : decode cX1_clearness 31 = .ok (.aload_n 1, 1) := by decide +kernel
theorem dX1_clearness_32 : decode cX1_clearness 32 = .ok (.getfield 17, 3) := by decide +kernel
theorem dX1_clearness_35 : decode cX1_clearness 35 = .ok (.iadd, 1) := by decide +kernel
theorem dX1_clearness_36 : decode cX1_clearness 36 = .ok (.iconst 1, 1) := by decide +kernel
theorem dX1_clearness_37 : decode cX1_clearness 37 = .ok (.isub, 1) := by decide +kernel
theorem dX1_clearness_38 : decode cX1_clearness 38 = .ok (.if_icmp .ge 29, 3) := by decide +kernel
theorem dX1_clearness_41 : decode cX1_clearness 41 = .ok (.iload 5, 2) := by decide +kernel
theorem dX1_clearness_43 : decode cX1_clearness 43 = .ok (.iload_n 2, 1) := by decide +kernel
theorem dX1_clearness_44 : decode cX1_clearness 44 = .ok (.if_icmp .eq 17, 3) := by decide +kernel
theorem dX1_clearness_47 : decode cX1_clearness 47 = .ok (.iload 4, 2) := by decide +kernel
theorem dX1_clearness_49 : decode cX1_clearness 49 = .ok (.aload_n 0, 1) := by decide +kernel
theorem dX1_clearness_50 : decode cX1_clearness 50 = .ok (.aload_n 1, 1) := by decide +kernel
theorem dX1_clearness_51 : decode cX1_clearness 51 = .ok (.iload 5, 2) := by decide +kernel
theorem dX1_clearness_53 : decode cX1_clearness 53 = .ok (.invokevirtual 37, 3) := by decide +kernel
theorem dX1_clearness_56 : decode cX1_clearness 56 = .ok (.invokestatic 45, 3) := by decide +kernel
theorem dX1_clearness_59 : decode cX1_clearness 59 = .ok (.istore 4, 2) := by decide +kernel
theorem dX1_clearness_61 : decode cX1_clearness 61 = .ok (.iinc 5 1, 3) := by decide +kernel
theorem dX1_clearness_64 : decode cX1_clearness 64 = .ok (.goto (-39), 3) := by decide +kernel
theorem dX1_clearness_67 : decode cX1_clearness 67 = .ok (.iload 4, 2) := by decide +kernel
theorem dX1_clearness_69 : decode cX1_clearness 69 = .ok (.ifCond .ne 8, 3) := by decide +kernel
theorem dX1_clearness_72 : decode cX1_clearness 72 = .ok (.ldc 50, 2) := by decide +kernel
theorem dX1_clearness_74 : decode cX1_clearness 74 = .ok (.goto 10, 3) := by decide +kernel
theorem dX1_clearness_77 : decode cX1_clearness 77 = .ok (.bipush 10, 2) := by decide +kernel
theorem dX1_clearness_79 : decode cX1_clearness 79 = .ok (.iload_n 3, 1) := by decide +kernel
theorem dX1_clearness_80 : decode cX1_clearness 80 = .ok (.imul, 1) := by decide +kernel
theorem dX1_clearness_81 : decode cX1_clearness 81 = .ok (.iload 4, 2) := by decide +kernel
theorem dX1_clearness_83 : decode cX1_clearness 83 = .ok (.idiv, 1) := by decide +kernel
theorem dX1_clearness_84 : decode cX1_clearness 84 = .ok (.ireturn, 1) := by decide +kernel
set_option maxRecDepth 20000 in
theorem ggX2_init_X2_reset : GoodIn wsX2_init wsX2_reset := goodIn_r _ [11, 12, 5, 6, 13, 14, 15] (by decide +kernel) (by decide +kernel)
set_option maxRecDepth 20000 in
theorem gX2_init_X2_reset : GoodIn wsX2_init (wsV RX2 18 RX2 yX2_reset wsX2_reset) := goodIn_app (goodIn_of _ (by decide +kernel)) ggX2_init_X2_reset
theorem dX2_init_0 : decode cX2_init 0 = .ok (.aload_n 0, 1) := by decide +kernel
theorem dX2_init_1 : decode cX2_init 1 = .ok (.invokespecial 3, 3) := by decide +kernel
theorem dX2_init_4 : decode cX2_init 4 = .ok (.aload_n 0, 1) := by decide +kernel
theorem dX2_init_5 : decode cX2_init 5 = .ok (.iconst 4, 1) := by decide +kernel
theorem dX2_init_6 : decode cX2_init 6 = .ok (.newarray .int, 2) := by decide +kernel
theorem dX2_init_8 : decode cX2_init 8 = .ok (.putfield 11, 3) := by decide +kernel
theorem dX2_init_11 : decode cX2_init 11 = .ok (.aload_n 0, 1) := by decide +kernel
theorem dX2_init_12 : decode cX2_init 12 = .ok (.iconst 4, 1) := by decide +kernel
theorem dX2_init_13 : decode cX2_init 13 = .ok (.newarray .int, 2) := by decide +kernel
theorem dX2_init_15 : decode cX2_init 15 = .ok (.putfield 15, 3) := by decide +kernel
theorem dX2_init_18 : decode cX2_init 18 = .ok (.aload_n 0, 1) := by decide +kernel
theorem dX2_init_19 : decode cX2_init 19 = .ok (.iconst 1, 1) := by decide +kernel
theorem dX2_init_20 : decode cX2_init 20 = .ok (.invokevirtual 18, 3) := by decide +kernel
theorem dX2_init_23 : decode cX2_init 23 = .ok (.return_, 1) := by decide +kernel
set_option maxRecDepth 20000 in
theorem ggX2_mayUnfold_X6_within : GoodIn wsX2_mayUnfold wsX6_within := goodIn_r _ [3] (by decide +kernel) (by decide +kernel)
set_option maxRecDepth 20000 in
theorem gX2_mayUnfold_X6_within_n22 : GoodIn wsX2_mayUnfold (wsX6_within) := ggX2_mayUnfold_X6_within
theorem dX2_mayUnfold_0 : decode cX2_mayUnfold 0 = .ok (.iload_n 0, 1) := by decide +kernel
theorem dX2_mayUnfold_1 : decode cX2_mayUnfold 1 = .ok (.iconst 0, 1) := by decide +kernel
theorem dX2_mayUnfold_2 : decode cX2_mayUnfold 2 = .ok (.iconst 5, 1) := by decide +kernel
theorem dX2_mayUnfold_3 : decode cX2_mayUnfold 3 = .ok (.invokestatic 22, 3) := by decide +kernel
theorem dX2_mayUnfold_6 : decode cX2_mayUnfold 6 = .ok (.ifCond .eq 27, 3) := by decide +kernel
theorem dX2_mayUnfold_9 : decode cX2_mayUnfold 9 = .ok (.iload_n 1, 1) := by decide +kernel
theorem dX2_mayUnfold_10 : decode cX2_mayUnfold 10 = .ok (.iconst 1, 1) := by decide +kernel
theorem dX2_mayUnfold_11 : decode cX2_mayUnfold 11 = .ok (.iconst 4, 1) := by decide +kernel
theorem dX2_mayUnfold_12 : decode cX2_mayUnfold 12 = .ok (.invokestatic 22, 3) := by decide +kernel
theorem dX2_mayUnfold_15 : decode cX2_mayUnfold 15 = .ok (.ifCond .eq 18, 3) := by decide +kernel
theorem dX2_mayUnfold_18 : decode cX2_mayUnfold 18 = .ok (.iload_n 2, 1) := by decide +kernel
theorem dX2_mayUnfold_19 : decode cX2_mayUnfold 19 = .ok (.iconst 1, 1) := by decide +kernel
theorem dX2_mayUnfold_20 : decode cX2_mayUnfold 20 = .ok (.sipush 5000, 3) := by decide +kernel
theorem dX2_mayUnfold_23 : decode cX2_mayUnfold 23 = .ok (.invokestatic 22, 3) := by decide +kernel
theorem dX2_mayUnfold_26 : decode cX2_mayUnfold 26 = .ok (.ifCond .eq 7, 3) := by decide +kernel
theorem dX2_mayUnfold_29 : decode cX2_mayUnfold 29 = .ok (.iconst 1, 1) := by decide +kernel
theorem dX2_mayUnfold_30 : decode cX2_mayUnfold 30 = .ok (.goto 4, 3) := by decide +kernel
theorem dX2_mayUnfold_33 : decode cX2_mayUnfold 33 = .ok (.iconst 0, 1) := by decide +kernel
theorem dX2_mayUnfold_34 : decode cX2_mayUnfold 34 = .ok (.ireturn, 1) := by decide +kernel
set_option maxRecDepth 20000 in
theorem ggX2_has_X6_within : GoodIn wsX2_has wsX6_within := goodIn_r _ [4] (by decide +kernel) (by decide +kernel)
set_option maxRecDepth 20000 in
theorem gX2_has_X6_within_n22 : GoodIn wsX2_has (wsX6_within) := ggX2_has_X6_within
theorem dX2_has_0 : decode cX2_has 0 = .ok (.iload_n 1, 1) := by decide +kernel
theorem dX2_has_1 : decode cX2_has 1 = .ok (.iconst 0, 1) := by decide +kernel
theorem dX2_has_2 : decode cX2_has 2 = .ok (.aload_n 0, 1) := by decide +kernel
theorem dX2_has_3 : decode cX2_has 3 = .ok (.getfield 26, 3) := by decide +kernel
theorem dX2_has_6 : decode cX2_has 6 = .ok (.iconst 1, 1) := by decide +kernel
theorem dX2_has_7 : decode cX2_has 7 = .ok (.isub, 1) := by decide +kernel
theorem dX2_has_8 : decode cX2_has 8 = .ok (.invokestatic 22, 3) := by decide +kernel
theorem dX2_has_11 : decode cX2_has 11 = .ok (.ireturn, 1) := by decide +kernel
theorem dX2_reset_0 : decode cX2_reset 0 = .ok (.aload_n 0, 1) := by decide +kernel
theorem dX2_reset_1 : decode cX2_reset 1 = .ok (.iload_n 1, 1) := by decide +kernel
theorem dX2_reset_2 : decode cX2_reset 2 = .ok (.putfield 26, 3) := by decide +kernel
theorem dX2_reset_5 : decode cX2_reset 5 = .ok (.iconst 0, 1) := by decide +kernel
theorem dX2_reset_6 : decode cX2_reset 6 = .ok (.istore_n 2, 1) := by decide +kernel
theorem dX2_reset_7 : decode cX2_reset 7 = .ok (.iload_n 2, 1) := by decide +kernel
theorem dX2_reset_8 : decode cX2_reset 8 = .ok (.iconst 4, 1) := by decide +kernel
theorem dX2_reset_9 : decode cX2_reset 9 = .ok (.if_icmp .ge 23, 3) := by decide +kernel
theorem dX2_reset_12 : decode cX2_reset 12 = .ok (.aload_n 0, 1) := by decide +kernel
theorem dX2_reset_13 : decode cX2_reset 13 = .ok (.getfield 11, 3) := by decide +kernel
theorem dX2_reset_16 : decode cX2_reset 16 = .ok (.iload_n 2, 1) := by decide +kernel
theorem dX2_reset_17 : decode cX2_reset 17 = .ok (.iconst 2, 1) := by decide +kernel
theorem dX2_reset_18 : decode cX2_reset 18 = .ok (.iastore, 1) := by decide +kernel
theorem dX2_reset_19 : decode cX2_reset 19 = .ok (.aload_n 0, 1) := by decide +kernel
theorem dX2_reset_20 : decode cX2_reset 20 = .ok (.getfield 15, 3) := by decide +kernel
theorem dX2_reset_23 : decode cX2_reset 23 = .ok (.iload_n 2, 1) := by decide +kernel
theorem dX2_reset_24 : decode cX2_reset 24 = .ok (.iconst (-1), 1) := by decide +kernel
theorem dX2_reset_25 : decode cX2_reset 25 = .ok (.iastore, 1) := by decide +kernel
theorem dX2_reset_26 : decode cX2_reset 26 = .ok (.iinc 2 1, 3) := by decide +kernel
theorem dX2_reset_29 : decode cX2_reset 29 = .ok (.goto (-22), 3) := by decide +kernel
theorem dX2_reset_32 : decode cX2_reset 32 = .ok (.return_, 1) := by decide +kernel
theorem dX2_readAll_0 : decode cX2_readAll 0 = .ok (.iconst 0, 1) := by decide +kernel
theorem dX2_readAll_1 : decode cX2_readAll 1 = .ok (.istore_n 2, 1) := by decide +kernel
theorem dX2_readAll_2 : decode cX2_readAll 2 = .ok (.iload_n 2, 1) := by decide +kernel
theorem dX2_readAll_3 : decode cX2_readAll 3 = .ok (.aload_n 0, 1) := by decide +kernel
theorem dX2_readAll_4 : decode cX2_readAll 4 = .ok (.getfield 26, 3) := by decide +kernel
theorem dX2_readAll_7 : decode cX2_readAll 7 = .ok (.if_icmp .ge 23, 3) := by decide +kernel
theorem dX2_readAll_10 : decode cX2_readAll 10 = .ok (.aload_n 0, 1) := by decide +kernel
theorem dX2_readAll_11 : decode cX2_readAll 11 = .ok (.getfield 15, 3) := by decide +kernel
theorem dX2_readAll_14 : decode cX2_readAll 14 = .ok (.iload_n 2, 1) := by decide +kernel
theorem dX2_readAll_15 : decode cX2_readAll 15 = .ok (.iload_n 1, 1) := by decide +kernel
theorem dX2_readAll_16 : decode cX2_readAll 16 = .ok (.aload_n 0, 1) := by decide +kernel
theorem dX2_readAll_17 : decode cX2_readAll 17 = .ok (.getfield 11, 3) := by decide +kernel
theorem dX2_readAll_20 : decode cX2_readAll 20 = .ok (.iload_n 2, 1) := by decide +kernel
theorem dX2_readAll_21 : decode cX2_readAll 21 = .ok (.iaload, 1) := by decide +kernel
theorem dX2_readAll_22 : decode cX2_readAll 22 = .ok (.irem, 1) := by decide +kernel
theorem dX2_readAll_23 : decode cX2_readAll 23 = .ok (.iastore, 1) := by decide +kernel
theorem dX2_readAll_24 : decode cX2_readAll 24 = .ok (.iinc 2 1, 3) := by decide +kernel
theorem dX2_readAll_27 : decode cX2_readAll 27 = .ok (.goto (-25), 3) := by decide +kernel
theorem dX2_readAll_30 : decode cX2_readAll 30 = .ok (.return_, 1) := by decide +kernel
theorem dX2_isNear_0 : decode cX2_isNear 0 = .ok (.aload_n 0, 1) := by decide +kernel
theorem dX2_isNear_1 : decode cX2_isNear 1 = .ok (.getfield 15, 3) := by decide +kernel
theorem dX2_isNear_4 : decode cX2_isNear 4 = .ok (.iload_n 1, 1) := by decide +kernel
theorem dX2_isNear_5 : decode cX2_isNear 5 = .ok (.iaload, 1) := by decide +kernel
theorem dX2_isNear_6 : decode cX2_isNear 6 = .ok (.iconst (-1), 1) := by decide +kernel
theorem dX2_isNear_7 : decode cX2_isNear 7 = .ok (.if_icmp .ne 5, 3) := by decide +kernel
theorem dX2_isNear_10 : decode cX2_isNear 10 = .ok (.iconst 0, 1) := by decide +kernel
theorem dX2_isNear_11 : decode cX2_isNear 11 = .ok (.ireturn, 1) := by decide +kernel
theorem dX2_isNear_12 : decode cX2_isNear 12 = .ok (.aload_n 0, 1) := by decide +kernel
theorem dX2_isNear_13 : decode cX2_isNear 13 = .ok (.getfield 15, 3) := by decide +kernel
theorem dX2_isNear_16 : decode cX2_isNear 16 = .ok (.iload_n 1, 1) := by decide +kernel
theorem dX2_isNear_17 : decode cX2_isNear 17 = .ok (.iaload, 1) := by decide +kernel
theorem dX2_isNear_18 : decode cX2_isNear 18 = .ok (.iload_n 2, 1) := by decide +kernel
theorem dX2_isNear_19 : decode cX2_isNear 19 = .ok (.aload_n 0, 1) := by decide +kernel
theorem dX2_isNear_20 : decode cX2_isNear 20 = .ok (.getfield 11, 3) := by decide +kernel
theorem dX2_isNear_23 : decode cX2_isNear 23 = .ok (.iload_n 1, 1) := by decide +kernel
theorem dX2_isNear_24 : decode cX2_isNear 24 = .ok (.iaload, 1) := by decide +kernel
theorem dX2_isNear_25 : decode cX2_isNear 25 = .ok (.irem, 1) := by decide +kernel
theorem dX2_isNear_26 : decode cX2_isNear 26 = .ok (.isub, 1) := by decide +kernel
theorem dX2_isNear_27 : decode cX2_isNear 27 = .ok (.invokestatic 30, 3) := by decide +kernel
theorem dX2_isNear_30 : decode cX2_isNear 30 = .ok (.istore 4, 2) := by decide +kernel
theorem dX2_isNear_32 : decode cX2_isNear 32 = .ok (.iload 4, 2) := by decide +kernel
theorem dX2_isNear_34 : decode cX2_isNear 34 = .ok (.aload_n 0, 1) := by decide +kernel
theorem dX2_isNear_35 : decode cX2_isNear 35 = .ok (.getfield 11, 3) := by decide +kernel
theorem dX2_isNear_38 : decode cX2_isNear 38 = .ok (.iload_n 1, 1) := by decide +kernel
theorem dX2_isNear_39 : decode cX2_isNear 39 = .ok (.iaload, 1) := by decide +kernel
theorem dX2_isNear_40 : decode cX2_isNear 40 = .ok (.iload 4, 2) := by decide +kernel
theorem dX2_isNear_42 : decode cX2_isNear 42 = .ok (.isub, 1) := by decide +kernel
theorem dX2_isNear_43 : decode cX2_isNear 43 = .ok (.invokestatic 36, 3) := by decide +kernel
theorem dX2_isNear_46 : decode cX2_isNear 46 = .ok (.iload_n 3, 1) := by decide +kernel
theorem dX2_isNear_47 : decode cX2_isNear 47 = .ok (.if_icmp .gt 7, 3) := by decide +kernel
theorem dX2_isNear_50 : decode cX2_isNear 50 = .ok (.iconst 1, 1) := by decide +kernel
theorem dX2_isNear_51 : decode cX2_isNear 51 = .ok (.goto 4, 3) := by decide +kernel
theorem dX2_isNear_54 : decode cX2_isNear 54 = .ok (.iconst 0, 1) := by decide +kernel
theorem dX2_isNear_55 : decode cX2_isNear 55 = .ok (.ireturn, 1) := by decide +kernel
set_option maxRecDepth 20000 in
theorem ggX2_fits_X2_isNear : GoodIn wsX2_fits wsX2_isNear := goodIn_r _ [6, 7, 8, 9, 10, 11, 12, 13, 14, 15, 16, 17, 18] (by decide +kernel) (by decide +kernel)
set_option maxRecDepth 20000 in
theorem gX2_fits_X2_isNear : GoodIn wsX2_fits (wsV RX2 40 RX2 yX2_isNear wsX2_isNear) := goodIn_app (goodIn_of _ (by decide +kernel)) ggX2_fits_X2_isNear
theorem dX2_fits_0 : decode cX2_fits 0 = .ok (.iconst 0, 1) := by decide +kernel
theorem dX2_fits_1 : decode cX2_fits 1 = .ok (.istore 4, 2) := by decide +kernel
theorem dX2_fits_3 : decode cX2_fits 3 = .ok (.iconst 0, 1) := by decide +kernel
theorem dX2_fits_4 : decode cX2_fits 4 = .ok (.istore 5, 2) := by decide +kernel
theorem dX2_fits_6 : decode cX2_fits 6 = .ok (.iload 5, 2) := by decide +kernel
theorem dX2_fits_8 : decode cX2_fits 8 = .ok (.aload_n 0, 1) := by decide +kernel
theorem dX2_fits_9 : decode cX2_fits 9 = .ok (.getfield 26, 3) := by decide +kernel
theorem dX2_fits_12 : decode cX2_fits 12 = .ok (.if_icmp .ge 23, 3) := by decide +kernel
theorem dX2_fits_15 : decode cX2_fits 15 = .ok (.aload_n 0, 1) := by decide +kernel
theorem dX2_fits_16 : decode cX2_fits 16 = .ok (.iload 5, 2) := by decide +kernel
theorem dX2_fits_18 : decode cX2_fits 18 = .ok (.iload_n 1, 1) := by decide +kernel
theorem dX2_fits_19 : decode cX2_fits 19 = .ok (.iload_n 2, 1) := by decide +kernel
theorem dX2_fits_20 : decode cX2_fits 20 = .ok (.invokevirtual 40, 3) := by decide +kernel
theorem dX2_fits_23 : decode cX2_fits 23 = .ok (.ifCond .eq 6, 3) := by decide +kernel
theorem dX2_fits_26 : decode cX2_fits 26 = .ok (.iinc 4 1, 3) := by decide +kernel
theorem dX2_fits_29 : decode cX2_fits 29 = .ok (.iinc 5 1, 3) := by decide +kernel
theorem dX2_fits_32 : decode cX2_fits 32 = .ok (.goto (-26), 3) := by decide +kernel
theorem dX2_fits_35 : decode cX2_fits 35 = .ok (.iload 4, 2) := by decide +kernel
theorem dX2_fits_37 : decode cX2_fits 37 = .ok (.iload_n 3, 1) := by decide +kernel
theorem dX2_fits_38 : decode cX2_fits 38 = .ok (.if_icmp .lt 7, 3) := by decide +kernel
theorem dX2_fits_41 : decode cX2_fits 41 = .ok (.iconst 1, 1) := by decide +kernel
theorem dX2_fits_42 : decode cX2_fits 42 = .ok (.goto 4, 3) := by decide +kernel
theorem dX2_fits_45 : decode cX2_fits 45 = .ok (.iconst 0, 1) := by decide +kernel
theorem dX2_fits_46 : decode cX2_fits 46 = .ok (.ireturn, 1) := by decide +kernel
set_option maxRecDepth 20000 in
theorem ggX2_fitting_X2_fits : GoodIn wsX2_fitting wsX2_fits := goodIn_r _ [5, 6, 7, 8, 9, 4, 10, 11, 12, 13, 14, 15, 16, 17, 18, 19, 20, 21, 22] (by decide +kernel) (by decide +kernel)
set_option maxRecDepth 20000 in
theorem gX2_fitting_X2_fits : GoodIn wsX2_fitting (wsV RX2 43 RX2 yX2_fits wsX2_fits) := goodIn_app (goodIn_of _ (by decide +kernel)) ggX2_fitting_X2_fits
theorem dX2_fitting_0 : decode cX2_fitting 0 = .ok (.iconst 0, 1) := by decide +kernel
theorem dX2_fitting_1 : decode cX2_fitting 1 = .ok (.istore 4, 2) := by decide +kernel
theorem dX2_fitting_3 : decode cX2_fitting 3 = .ok (.iconst 0, 1) := by decide +kernel
theorem dX2_fitting_4 : decode cX2_fitting 4 = .ok (.istore 5, 2) := by decide +kernel
theorem dX2_fitting_6 : decode cX2_fitting 6 = .ok (.iload 5, 2) := by decide +kernel
theorem dX2_fitting_8 : decode cX2_fitting 8 = .ok (.iload_n 3, 1) := by decide +kernel
theorem dX2_fitting_9 : decode cX2_fitting 9 = .ok (.if_icmp .ge 23, 3) := by decide +kernel
theorem dX2_fitting_12 : decode cX2_fitting 12 = .ok (.aload_n 0, 1) := by decide +kernel
theorem dX2_fitting_13 : decode cX2_fitting 13 = .ok (.iload 5, 2) := by decide +kernel
theorem dX2_fitting_15 : decode cX2_fitting 15 = .ok (.iload_n 1, 1) := by decide +kernel
theorem dX2_fitting_16 : decode cX2_fitting 16 = .ok (.iload_n 2, 1) := by decide +kernel
theorem dX2_fitting_17 : decode cX2_fitting 17 = .ok (.invokevirtual 43, 3) := by decide +kernel
theorem dX2_fitting_20 : decode cX2_fitting 20 = .ok (.ifCond .eq 6, 3) := by decide +kernel
theorem dX2_fitting_23 : decode cX2_fitting 23 = .ok (.iinc 4 1, 3) := by decide +kernel
theorem dX2_fitting_26 : decode cX2_fitting 26 = .ok (.iinc 5 1, 3) := by decide +kernel
theorem dX2_fitting_29 : decode cX2_fitting 29 = .ok (.goto (-23), 3) := by decide +kernel
theorem dX2_fitting_32 : decode cX2_fitting 32 = .ok (.iload 4, 2) := by decide +kernel
theorem dX2_fitting_34 : decode cX2_fitting 34 = .ok (.ireturn, 1) := by decide +kernel
set_option maxRecDepth 20000 in
theorem ggX2_fittingAt_X2_fits : GoodIn wsX2_fittingAt wsX2_fits := goodIn_r _ [5, 6, 7, 8, 9, 4, 10, 11, 12, 13, 14, 15, 16, 17, 18, 19, 20, 21, 22] (by decide +kernel) (by decide +kernel)
set_option maxRecDepth 20000 in
theorem gX2_fittingAt_X2_fits : GoodIn wsX2_fittingAt (wsV RX2 43 RX2 yX2_fits wsX2_fits) := goodIn_app (goodIn_of _ (by decide +kernel)) ggX2_fittingAt_X2_fits
theorem dX2_fittingAt_0 : decode cX2_fittingAt 0 = .ok (.iconst 0, 1) := by decide +kernel
theorem dX2_fittingAt_1 : decode cX2_fittingAt 1 = .ok (.istore 5, 2) := by decide +kernel
theorem dX2_fittingAt_3 : decode cX2_fittingAt 3 = .ok (.iconst 0, 1) := by decide +kernel
theorem dX2_fittingAt_4 : decode cX2_fittingAt 4 = .ok (.istore 6, 2) := by decide +kernel
theorem dX2_fittingAt_6 : decode cX2_fittingAt 6 = .ok (.iload 6, 2) := by decide +kernel
theorem dX2_fittingAt_8 : decode cX2_fittingAt 8 = .ok (.iload_n 3, 1) := by decide +kernel
theorem dX2_fittingAt_9 : decode cX2_fittingAt 9 = .ok (.if_icmp .ge 33, 3) := by decide +kernel
theorem dX2_fittingAt_12 : decode cX2_fittingAt 12 = .ok (.aload_n 0, 1) := by decide +kernel
theorem dX2_fittingAt_13 : decode cX2_fittingAt 13 = .ok (.iload 6, 2) := by decide +kernel
theorem dX2_fittingAt_15 : decode cX2_fittingAt 15 = .ok (.iload_n 1, 1) := by decide +kernel
theorem dX2_fittingAt_16 : decode cX2_fittingAt 16 = .ok (.iload_n 2, 1) := by decide +kernel
theorem dX2_fittingAt_17 : decode cX2_fittingAt 17 = .ok (.invokevirtual 43, 3) := by decide +kernel
theorem dX2_fittingAt_20 : decode cX2_fittingAt 20 = .ok (.ifCond .eq 16, 3) := by decide +kernel
theorem dX2_fittingAt_23 : decode cX2_fittingAt 23 = .ok (.iload 5, 2) := by decide +kernel
theorem dX2_fittingAt_25 : decode cX2_fittingAt 25 = .ok (.iload 4, 2) := by decide +kernel
theorem dX2_fittingAt_27 : decode cX2_fittingAt 27 = .ok (.if_icmp .ne 6, 3) := by decide +kernel
theorem dX2_fittingAt_30 : decode cX2_fittingAt 30 = .ok (.iload 6, 2) := by decide +kernel
theorem dX2_fittingAt_32 : decode cX2_fittingAt 32 = .ok (.ireturn, 1) := by decide +kernel
theorem dX2_fittingAt_33 : decode cX2_fittingAt 33 = .ok (.iinc 5 1, 3) := by decide +kernel
theorem dX2_fittingAt_36 : decode cX2_fittingAt 36 = .ok (.iinc 6 1, 3) := by decide +kernel
theorem dX2_fittingAt_39 : decode cX2_fittingAt 39 = .ok (.goto (-33), 3) := by decide +kernel
theorem dX2_fittingAt_42 : decode cX2_fittingAt 42 = .ok (.iconst (-1), 1) := by decide +kernel
theorem dX2_fittingAt_43 : decode cX2_fittingAt 43 = .ok (.ireturn, 1) := by decide +kernel
set_option maxRecDepth 20000 in
theorem ggX2_leastCommon_X6_commonDivisor : GoodIn wsX2_leastCommon wsX6_commonDivisor := goodIn_r _ [5] (by decide +kernel) (by decide +kernel)
set_option maxRecDepth 20000 in
theorem gX2_leastCommon_X6_commonDivisor_n46 : GoodIn wsX2_leastCommon (wsX6_commonDivisor) := ggX2_leastCommon_X6_commonDivisor
theorem dX2_leastCommon_0 : decode cX2_leastCommon 0 = .ok (.iconst 1, 1) := by decide +kernel
theorem dX2_leastCommon_1 : decode cX2_leastCommon 1 = .ok (.istore_n 1, 1) := by decide +kernel
theorem dX2_leastCommon_2 : decode cX2_leastCommon 2 = .ok (.iconst 0, 1) := by decide +kernel
theorem dX2_leastCommon_3 : decode cX2_leastCommon 3 = .ok (.istore_n 2, 1) := by decide +kernel
theorem dX2_leastCommon_4 : decode cX2_leastCommon 4 = .ok (.iload_n 2, 1) := by decide +kernel
theorem dX2_leastCommon_5 : decode cX2_leastCommon 5 = .ok (.aload_n 0, 1) := by decide +kernel
theorem dX2_leastCommon_6 : decode cX2_leastCommon 6 = .ok (.getfield 26, 3) := by decide +kernel
theorem dX2_leastCommon_9 : decode cX2_leastCommon 9 = .ok (.if_icmp .ge 32, 3) := by decide +kernel
theorem dX2_leastCommon_12 : decode cX2_leastCommon 12 = .ok (.iload_n 1, 1) := by decide +kernel
theorem dX2_leastCommon_13 : decode cX2_leastCommon 13 = .ok (.aload_n 0, 1) := by decide +kernel
theorem dX2_leastCommon_14 : decode cX2_leastCommon 14 = .ok (.getfield 11, 3) := by decide +kernel
theorem dX2_leastCommon_17 : decode cX2_leastCommon 17 = .ok (.iload_n 2, 1) := by decide +kernel
theorem dX2_leastCommon_18 : decode cX2_leastCommon 18 = .ok (.iaload, 1) := by decide +kernel
theorem dX2_leastCommon_19 : decode cX2_leastCommon 19 = .ok (.iload_n 1, 1) := by decide +kernel
theorem dX2_leastCommon_20 : decode cX2_leastCommon 20 = .ok (.i2l, 1) := by decide +kernel
theorem dX2_leastCommon_21 : decode cX2_leastCommon 21 = .ok (.aload_n 0, 1) := by decide +kernel
theorem dX2_leastCommon_22 : decode cX2_leastCommon 22 = .ok (.getfield 11, 3) := by decide +kernel
theorem dX2_leastCommon_25 : decode cX2_leastCommon 25 = .ok (.iload_n 2, 1) := by decide +kernel
theorem dX2_leastCommon_26 : decode cX2_leastCommon 26 = .ok (.iaload, 1) := by decide +kernel
theorem dX2_leastCommon_27 : decode cX2_leastCommon 27 = .ok (.i2l, 1) := by decide +kernel
theorem dX2_leastCommon_28 : decode cX2_leastCommon 28 = .ok (.invokestatic 46, 3) := by decide +kernel
theorem dX2_leastCommon_31 : decode cX2_leastCommon 31 = .ok (.l2i, 1) := by decide +kernel
theorem dX2_leastCommon_32 : decode cX2_leastCommon 32 = .ok (.idiv, 1) := by decide +kernel
theorem dX2_leastCommon_33 : decode cX2_leastCommon 33 = .ok (.imul, 1) := by decide +kernel
theorem dX2_leastCommon_34 : decode cX2_leastCommon 34 = .ok (.istore_n 1, 1) := by decide +kernel
theorem dX2_leastCommon_35 : decode cX2_leastCommon 35 = .ok (.iinc 2 1, 3) := by decide +kernel
theorem dX2_leastCommon_38 : decode cX2_leastCommon 38 = .ok (.goto (-34), 3) := by decide +kernel
theorem dX2_leastCommon_41 : decode cX2_leastCommon 41 = .ok (.iload_n 1, 1) := by decide +kernel
theorem dX2_leastCommon_42 : decode cX2_leastCommon 42 = .ok (.ireturn, 1) := by decide +kernel
set_option maxRecDepth 20000 in
theorem ggX2_unseen_X6_commonDivisor : GoodIn wsX2_unseen wsX6_commonDivisor := goodIn_r _ [4] (by decide +kernel) (by decide +kernel)
set_option maxRecDepth 20000 in
theorem gX2_unseen_X6_commonDivisor_n46 : GoodIn wsX2_unseen (wsX6_commonDivisor) := ggX2_unseen_X6_commonDivisor
theorem dX2_unseen_0 : decode cX2_unseen 0 = .ok (.iload_n 3, 1) := by decide +kernel
theorem dX2_unseen_1 : decode cX2_unseen 1 = .ok (.i2l, 1) := by decide +kernel
theorem dX2_unseen_2 : decode cX2_unseen 2 = .ok (.lstore 4, 2) := by decide +kernel
theorem dX2_unseen_4 : decode cX2_unseen 4 = .ok (.iload_n 1, 1) := by decide +kernel
theorem dX2_unseen_5 : decode cX2_unseen 5 = .ok (.istore 6, 2) := by decide +kernel
theorem dX2_unseen_7 : decode cX2_unseen 7 = .ok (.iload 6, 2) := by decide +kernel
theorem dX2_unseen_9 : decode cX2_unseen 9 = .ok (.iload_n 2, 1) := by decide +kernel
theorem dX2_unseen_10 : decode cX2_unseen 10 = .ok (.if_icmp .gt 24, 3) := by decide +kernel
theorem dX2_unseen_13 : decode cX2_unseen 13 = .ok (.lload 4, 2) := by decide +kernel
theorem dX2_unseen_15 : decode cX2_unseen 15 = .ok (.aload_n 0, 1) := by decide +kernel
theorem dX2_unseen_16 : decode cX2_unseen 16 = .ok (.getfield 11, 3) := by decide +kernel
theorem dX2_unseen_19 : decode cX2_unseen 19 = .ok (.iload 6, 2) := by decide +kernel
theorem dX2_unseen_21 : decode cX2_unseen 21 = .ok (.iaload, 1) := by decide +kernel
theorem dX2_unseen_22 : decode cX2_unseen 22 = .ok (.i2l, 1) := by decide +kernel
theorem dX2_unseen_23 : decode cX2_unseen 23 = .ok (.invokestatic 46, 3) := by decide +kernel
theorem dX2_unseen_26 : decode cX2_unseen 26 = .ok (.lstore 4, 2) := by decide +kernel
theorem dX2_unseen_28 : decode cX2_unseen 28 = .ok (.iinc 6 1, 3) := by decide +kernel
theorem dX2_unseen_31 : decode cX2_unseen 31 = .ok (.goto (-24), 3) := by decide +kernel
theorem dX2_unseen_34 : decode cX2_unseen 34 = .ok (.lload 4, 2) := by decide +kernel
theorem dX2_unseen_36 : decode cX2_unseen 36 = .ok (.l2i, 1) := by decide +kernel
theorem dX2_unseen_37 : decode cX2_unseen 37 = .ok (.ireturn, 1) := by decide +kernel
theorem dX3_init_0 : decode cX3_init 0 = .ok (.aload_n 0, 1) := by decide +kernel
theorem dX3_init_1 : decode cX3_init 1 = .ok (.invokespecial 1, 3) := by decide +kernel
theorem dX3_init_4 : decode cX3_init 4 = .ok (.aload_n 0, 1) := by decide +kernel
theorem dX3_init_5 : decode cX3_init 5 = .ok (.bipush 64, 2) := by decide +kernel
theorem dX3_init_7 : decode cX3_init 7 = .ok (.newarray .int, 2) := by decide +kernel
theorem dX3_init_9 : decode cX3_init 9 = .ok (.putfield 9, 3) := by decide +kernel
theorem dX3_init_12 : decode cX3_init 12 = .ok (.aload_n 0, 1) := by decide +kernel
theorem dX3_init_13 : decode cX3_init 13 = .ok (.iconst 0, 1) := by decide +kernel
theorem dX3_init_14 : decode cX3_init 14 = .ok (.putfield 13, 3) := by decide +kernel
theorem dX3_init_17 : decode cX3_init 17 = .ok (.aload_n 0, 1) := by decide +kernel
theorem dX3_init_18 : decode cX3_init 18 = .ok (.bipush 16, 2) := by decide +kernel
theorem dX3_init_20 : decode cX3_init 20 = .ok (.newarray .int, 2) := by decide +kernel
theorem dX3_init_22 : decode cX3_init 22 = .ok (.putfield 17, 3) := by decide +kernel
theorem dX3_init_25 : decode cX3_init 25 = .ok (.return_, 1) := by decide +kernel
set_option maxRecDepth 20000 in
theorem ggX3_maySeek_X6_within : GoodIn wsX3_maySeek wsX6_within := goodIn_r _ [3] (by decide +kernel) (by decide +kernel)
set_option maxRecDepth 20000 in
theorem gX3_maySeek_X6_within_n20 : GoodIn wsX3_maySeek (wsX6_within) := ggX3_maySeek_X6_within
theorem dX3_maySeek_0 : decode cX3_maySeek 0 = .ok (.iload_n 0, 1) := by decide +kernel
theorem dX3_maySeek_1 : decode cX3_maySeek 1 = .ok (.iconst 1, 1) := by decide +kernel
theorem dX3_maySeek_2 : decode cX3_maySeek 2 = .ok (.bipush 8, 2) := by decide +kernel
theorem dX3_maySeek_4 : decode cX3_maySeek 4 = .ok (.invokestatic 20, 3) := by decide +kernel
theorem dX3_maySeek_7 : decode cX3_maySeek 7 = .ok (.ifCond .eq 37, 3) := by decide +kernel
theorem dX3_maySeek_10 : decode cX3_maySeek 10 = .ok (.iload_n 1, 1) := by decide +kernel
theorem dX3_maySeek_11 : decode cX3_maySeek 11 = .ok (.iconst 0, 1) := by decide +kernel
theorem dX3_maySeek_12 : decode cX3_maySeek 12 = .ok (.iconst 3, 1) := by decide +kernel
theorem dX3_maySeek_13 : decode cX3_maySeek 13 = .ok (.invokestatic 20, 3) := by decide +kernel
theorem dX3_maySeek_16 : decode cX3_maySeek 16 = .ok (.ifCond .eq 28, 3) := by decide +kernel
theorem dX3_maySeek_19 : decode cX3_maySeek 19 = .ok (.iload_n 2, 1) := by decide +kernel
theorem dX3_maySeek_20 : decode cX3_maySeek 20 = .ok (.iconst 1, 1) := by decide +kernel
theorem dX3_maySeek_21 : decode cX3_maySeek 21 = .ok (.bipush 8, 2) := by decide +kernel
theorem dX3_maySeek_23 : decode cX3_maySeek 23 = .ok (.invokestatic 20, 3) := by decide +kernel
theorem dX3_maySeek_26 : decode cX3_maySeek 26 = .ok (.ifCond .eq 18, 3) := by decide +kernel
theorem dX3_maySeek_29 : decode cX3_maySeek 29 = .ok (.iload_n 3, 1) := by decide +kernel
theorem dX3_maySeek_30 : decode cX3_maySeek 30 = .ok (.iconst 1, 1) := by decide +kernel
theorem dX3_maySeek_31 : decode cX3_maySeek 31 = .ok (.sipush 500, 3) := by decide +kernel
theorem dX3_maySeek_34 : decode cX3_maySeek 34 = .ok (.invokestatic 20, 3) := by decide +kernel
theorem dX3_maySeek_37 : decode cX3_maySeek 37 = .ok (.ifCond .eq 7, 3) := by decide +kernel
theorem dX3_maySeek_40 : decode cX3_maySeek 40 = .ok (.iconst 1, 1) := by decide +kernel
theorem dX3_maySeek_41 : decode cX3_maySeek 41 = .ok (.goto 4, 3) := by decide +kernel
theorem dX3_maySeek_44 : decode cX3_maySeek 44 = .ok (.iconst 0, 1) := by decide +kernel
theorem dX3_maySeek_45 : decode cX3_maySeek 45 = .ok (.ireturn, 1) := by decide +kernel
theorem dX3_append_0 : decode cX3_append 0 = .ok (.aload_n 0, 1) := by decide +kernel
theorem dX3_append_1 : decode cX3_append 1 = .ok (.getfield 13, 3) := by decide +kernel
theorem dX3_append_4 : decode cX3_append 4 = .ok (.bipush 64, 2) := by decide +kernel
theorem dX3_append_6 : decode cX3_append 6 = .ok (.if_icmp .lt 5, 3) := by decide +kernel
theorem dX3_append_9 : decode cX3_append 9 = .ok (.iconst 0, 1) := by decide +kernel
theorem dX3_append_10 : decode cX3_append 10 = .ok (.ireturn, 1) := by decide +kernel
theorem dX3_append_11 : decode cX3_append 11 = .ok (.aload_n 0, 1) := by decide +kernel
theorem dX3_append_12 : decode cX3_append 12 = .ok (.getfield 9, 3) := by decide +kernel
theorem dX3_append_15 : decode cX3_append 15 = .ok (.aload_n 0, 1) := by decide +kernel
theorem dX3_append_16 : decode cX3_append 16 = .ok (.getfield 13, 3) := by decide +kernel
theorem dX3_append_19 : decode cX3_append 19 = .ok (.iload_n 1, 1) := by decide +kernel
theorem dX3_append_20 : decode cX3_append 20 = .ok (.iastore, 1) := by decide +kernel
theorem dX3_append_21 : decode cX3_append 21 = .ok (.aload_n 0, 1) := by decide +kernel
theorem dX3_append_22 : decode cX3_append 22 = .ok (.dup, 1) := by decide +kernel
theorem dX3_append_23 : decode cX3_append 23 = .ok (.getfield 13, 3) := by decide +kernel
theorem dX3_append_26 : decode cX3_append 26 = .ok (.iconst 1, 1) := by decide +kernel
theorem dX3_append_27 : decode cX3_append 27 = .ok (.iadd, 1) := by decide +kernel
theorem dX3_append_28 : decode cX3_append 28 = .ok (.putfield 13, 3) := by decide +kernel
theorem dX3_append_31 : decode cX3_append 31 = .ok (.iconst 1, 1) := by decide +kernel
theorem dX3_append_32 : decode cX3_append 32 = .ok (.ireturn, 1) := by decide +kernel
set_option maxRecDepth 20000 in
theorem ggX3_standsOut_X3_orderNeighbours : GoodIn wsX3_standsOut wsX3_orderNeighbours := goodIn_r _ [7, 1, 8, 9, 10, 11, 6, 12, 2, 13, 14, 15] (by decide +kernel) (by decide +kernel)
set_option maxRecDepth 20000 in
theorem gX3_standsOut_X3_orderNeighbours : GoodIn wsX3_standsOut (wsV RX3 26 RX3 yX3_orderNeighbours wsX3_orderNeighbours) := goodIn_app (goodIn_of _ (by decide +kernel)) ggX3_standsOut_X3_orderNeighbours
theorem dX3_standsOut_0 : decode cX3_standsOut 0 = .ok (.aload_n 0, 1) := by decide +kernel
theorem dX3_standsOut_1 : decode cX3_standsOut 1 = .ok (.iload_n 1, 1) := by decide +kernel
theorem dX3_standsOut_2 : decode cX3_standsOut 2 = .ok (.iload_n 2, 1) := by decide +kernel
theorem dX3_standsOut_3 : decode cX3_standsOut 3 = .ok (.iload_n 3, 1) := by decide +kernel
theorem dX3_standsOut_4 : decode cX3_standsOut 4 = .ok (.invokevirtual 26, 3) := by decide +kernel
theorem dX3_standsOut_7 : decode cX3_standsOut 7 = .ok (.istore 6, 2) := by decide +kernel
theorem dX3_standsOut_9 : decode cX3_standsOut 9 = .ok (.iload 6, 2) := by decide +kernel
theorem dX3_standsOut_11 : decode cX3_standsOut 11 = .ok (.iload 4, 2) := by decide +kernel
theorem dX3_standsOut_13 : decode cX3_standsOut 13 = .ok (.if_icmp .lt 31, 3) := by decide +kernel
theorem dX3_standsOut_16 : decode cX3_standsOut 16 = .ok (.bipush 10, 2) := by decide +kernel
theorem dX3_standsOut_18 : decode cX3_standsOut 18 = .ok (.aload_n 0, 1) := by decide +kernel
theorem dX3_standsOut_19 : decode cX3_standsOut 19 = .ok (.getfield 9, 3) := by decide +kernel
theorem dX3_standsOut_22 : decode cX3_standsOut 22 = .ok (.iload_n 1, 1) := by decide +kernel
theorem dX3_standsOut_23 : decode cX3_standsOut 23 = .ok (.iaload, 1) := by decide +kernel
theorem dX3_standsOut_24 : decode cX3_standsOut 24 = .ok (.imul, 1) := by decide +kernel
theorem dX3_standsOut_25 : decode cX3_standsOut 25 = .ok (.iload 5, 2) := by decide +kernel
theorem dX3_standsOut_27 : decode cX3_standsOut 27 = .ok (.aload_n 0, 1) := by decide +kernel
theorem dX3_standsOut_28 : decode cX3_standsOut 28 = .ok (.getfield 17, 3) := by decide +kernel
theorem dX3_standsOut_31 : decode cX3_standsOut 31 = .ok (.iload 4, 2) := by decide +kernel
theorem dX3_standsOut_33 : decode cX3_standsOut 33 = .ok (.iconst 1, 1) := by decide +kernel
theorem dX3_standsOut_34 : decode cX3_standsOut 34 = .ok (.isub, 1) := by decide +kernel
theorem dX3_standsOut_35 : decode cX3_standsOut 35 = .ok (.iaload, 1) := by decide +kernel
theorem dX3_standsOut_36 : decode cX3_standsOut 36 = .ok (.imul, 1) := by decide +kernel
theorem dX3_standsOut_37 : decode cX3_standsOut 37 = .ok (.if_icmp .le 7, 3) := by decide +kernel
theorem dX3_standsOut_40 : decode cX3_standsOut 40 = .ok (.iconst 1, 1) := by decide +kernel
theorem dX3_standsOut_41 : decode cX3_standsOut 41 = .ok (.goto 4, 3) := by decide +kernel
theorem dX3_standsOut_44 : decode cX3_standsOut 44 = .ok (.iconst 0, 1) := by decide +kernel
theorem dX3_standsOut_45 : decode cX3_standsOut 45 = .ok (.ireturn, 1) := by decide +kernel
set_option maxRecDepth 20000 in
theorem ggX3_standingOut_X3_standsOut : GoodIn wsX3_standingOut wsX3_standsOut := goodIn_r _ [6, 7, 8, 9, 10, 11, 5, 12, 1, 13, 14, 15, 16, 17, 18, 19] (by decide +kernel) (by decide +kernel)
set_option maxRecDepth 20000 in
theorem gX3_standingOut_X3_standsOut : GoodIn wsX3_standingOut (wsV RX3 30 RX3 yX3_standsOut wsX3_standsOut) := goodIn_app (goodIn_of _ (by decide +kernel)) ggX3_standingOut_X3_standsOut
theorem dX3_standingOut_0 : decode cX3_standingOut 0 = .ok (.iconst 0, 1) := by decide +kernel
theorem dX3_standingOut_1 : decode cX3_standingOut 1 = .ok (.istore 5, 2) := by decide +kernel
theorem dX3_standingOut_3 : decode cX3_standingOut 3 = .ok (.iconst 0, 1) := by decide +kernel
theorem dX3_standingOut_4 : decode cX3_standingOut 4 = .ok (.istore 6, 2) := by decide +kernel
theorem dX3_standingOut_6 : decode cX3_standingOut 6 = .ok (.iload 6, 2) := by decide +kernel
theorem dX3_standingOut_8 : decode cX3_standingOut 8 = .ok (.aload_n 0, 1) := by decide +kernel
theorem dX3_standingOut_9 : decode cX3_standingOut 9 = .ok (.getfield 13, 3) := by decide +kernel
theorem dX3_standingOut_12 : decode cX3_standingOut 12 = .ok (.if_icmp .ge 26, 3) := by decide +kernel
theorem dX3_standingOut_15 : decode cX3_standingOut 15 = .ok (.aload_n 0, 1) := by decide +kernel
theorem dX3_standingOut_16 : decode cX3_standingOut 16 = .ok (.iload 6, 2) := by decide +kernel
theorem dX3_standingOut_18 : decode cX3_standingOut 18 = .ok (.iload_n 1, 1) := by decide +kernel
theorem dX3_standingOut_19 : decode cX3_standingOut 19 = .ok (.iload_n 2, 1) := by decide +kernel
theorem dX3_standingOut_20 : decode cX3_standingOut 20 = .ok (.iload_n 3, 1) := by decide +kernel
theorem dX3_standingOut_21 : decode cX3_standingOut 21 = .ok (.iload 4, 2) := by decide +kernel
theorem dX3_standingOut_23 : decode cX3_standingOut 23 = .ok (.invokevirtual 30, 3) := by decide +kernel
theorem dX3_standingOut_26 : decode cX3_standingOut 26 = .ok (.ifCond .eq 6, 3) := by decide +kernel
theorem dX3_standingOut_29 : decode cX3_standingOut 29 = .ok (.iinc 5 1, 3) := by decide +kernel
theorem dX3_standingOut_32 : decode cX3_standingOut 32 = .ok (.iinc 6 1, 3) := by decide +kernel
theorem dX3_standingOut_35 : decode cX3_standingOut 35 = .ok (.goto (-29), 3) := by decide +kernel
theorem dX3_standingOut_38 : decode cX3_standingOut 38 = .ok (.iload 5, 2) := by decide +kernel
theorem dX3_standingOut_40 : decode cX3_standingOut 40 = .ok (.ireturn, 1) := by decide +kernel
set_option maxRecDepth 20000 in
theorem ggX3_orderNeighbours_X3_insert : GoodIn wsX3_orderNeighbours wsX3_insert := goodIn_r _ [7, 8, 9, 10, 11] (by decide +kernel) (by decide +kernel)
set_option maxRecDepth 20000 in
theorem gX3_orderNeighbours_X3_insert : GoodIn wsX3_orderNeighbours (wsV RX3 34 RX3 yX3_insert wsX3_insert) := goodIn_app (goodIn_of _ (by decide +kernel)) ggX3_orderNeighbours_X3_insert
theorem dX3_orderNeighbours_0 : decode cX3_orderNeighbours 0 = .ok (.iconst 0, 1) := by decide +kernel
theorem dX3_orderNeighbours_1 : decode cX3_orderNeighbours 1 = .ok (.istore 4, 2) := by decide +kernel
theorem dX3_orderNeighbours_3 : decode cX3_orderNeighbours 3 = .ok (.iload_n 3, 1) := by decide +kernel
theorem dX3_orderNeighbours_4 : decode cX3_orderNeighbours 4 = .ok (.iconst 1, 1) := by decide +kernel
theorem dX3_orderNeighbours_5 : decode cX3_orderNeighbours 5 = .ok (.iadd, 1) := by decide +kernel
theorem dX3_orderNeighbours_6 : decode cX3_orderNeighbours 6 = .ok (.istore 5, 2) := by decide +kernel
theorem dX3_orderNeighbours_8 : decode cX3_orderNeighbours 8 = .ok (.iload 5, 2) := by decide +kernel
theorem dX3_orderNeighbours_10 : decode cX3_orderNeighbours 10 = .ok (.iload_n 3, 1) := by decide +kernel
theorem dX3_orderNeighbours_11 : decode cX3_orderNeighbours 11 = .ok (.iload_n 2, 1) := by decide +kernel
theorem dX3_orderNeighbours_12 : decode cX3_orderNeighbours 12 = .ok (.iadd, 1) := by decide +kernel
theorem dX3_orderNeighbours_13 : decode cX3_orderNeighbours 13 = .ok (.if_icmp .gt 63, 3) := by decide +kernel
theorem dX3_orderNeighbours_16 : decode cX3_orderNeighbours 16 = .ok (.iload_n 1, 1) := by decide +kernel
theorem dX3_orderNeighbours_17 : decode cX3_orderNeighbours 17 = .ok (.iload 5, 2) := by decide +kernel
theorem dX3_orderNeighbours_19 : decode cX3_orderNeighbours 19 = .ok (.isub, 1) := by decide +kernel
theorem dX3_orderNeighbours_20 : decode cX3_orderNeighbours 20 = .ok (.ifCond .lt 21, 3) := by decide +kernel
theorem dX3_orderNeighbours_23 : decode cX3_orderNeighbours 23 = .ok (.aload_n 0, 1) := by decide +kernel
theorem dX3_orderNeighbours_24 : decode cX3_orderNeighbours 24 = .ok (.aload_n 0, 1) := by decide +kernel
theorem dX3_orderNeighbours_25 : decode cX3_orderNeighbours 25 = .ok (.getfield 9, 3) := by decide +kernel
theorem dX3_orderNeighbours_28 : decode cX3_orderNeighbours 28 = .ok (.iload_n 1, 1) := by decide +kernel
theorem dX3_orderNeighbours_29 : decode cX3_orderNeighbours 29 = .ok (.iload 5, 2) := by decide +kernel
theorem dX3_orderNeighbours_31 : decode cX3_orderNeighbours 31 = .ok (.isub, 1) := by decide +kernel
theorem dX3_orderNeighbours_32 : decode cX3_orderNeighbours 32 = .ok (.iaload, 1) := by decide +kernel
theorem dX3_orderNeighbours_33 : decode cX3_orderNeighbours 33 = .ok (.iload 4, 2) := by decide +kernel
theorem dX3_orderNeighbours_35 : decode cX3_orderNeighbours 35 = .ok (.invokevirtual 34, 3) := by decide +kernel
theorem dX3_orderNeighbours_38 : decode cX3_orderNeighbours 38 = .ok (.iinc 4 1, 3) := by decide +kernel
theorem dX3_orderNeighbours_41 : decode cX3_orderNeighbours 41 = .ok (.iload_n 1, 1) := by decide +kernel
theorem dX3_orderNeighbours_42 : decode cX3_orderNeighbours 42 = .ok (.iload 5, 2) := by decide +kernel
theorem dX3_orderNeighbours_44 : decode cX3_orderNeighbours 44 = .ok (.iadd, 1) := by decide +kernel
theorem dX3_orderNeighbours_45 : decode cX3_orderNeighbours 45 = .ok (.aload_n 0, 1) := by decide +kernel
theorem dX3_orderNeighbours_46 : decode cX3_orderNeighbours 46 = .ok (.getfield 13, 3) := by decide +kernel
theorem dX3_orderNeighbours_49 : decode cX3_orderNeighbours 49 = .ok (.if_icmp .ge 21, 3) := by decide +kernel
theorem dX3_orderNeighbours_52 : decode cX3_orderNeighbours 52 = .ok (.aload_n 0, 1) := by decide +kernel
theorem dX3_orderNeighbours_53 : decode cX3_orderNeighbours 53 = .ok (.aload_n 0, 1) := by decide +kernel
theorem dX3_orderNeighbours_54 : decode cX3_orderNeighbours 54 = .ok (.getfield 9, 3) := by decide +kernel
theorem dX3_orderNeighbours_57 : decode cX3_orderNeighbours 57 = .ok (.iload_n 1, 1) := by decide +kernel
theorem dX3_orderNeighbours_58 : decode cX3_orderNeighbours 58 = .ok (.iload 5, 2) := by decide +kernel
theorem dX3_orderNeighbours_60 : decode cX3_orderNeighbours 60 = .ok (.iadd, 1) := by decide +kernel
theorem dX3_orderNeighbours_61 : decode cX3_orderNeighbours 61 = .ok (.iaload, 1) := by decide +kernel
theorem dX3_orderNeighbours_62 : decode cX3_orderNeighbours 62 = .ok (.iload 4, 2) := by decide +kernel
theorem dX3_orderNeighbours_64 : decode cX3_orderNeighbours 64 = .ok (.invokevirtual 34, 3) := by decide +kernel
theorem dX3_orderNeighbours_67 : decode cX3_orderNeighbours 67 = .ok (.iinc 4 1, 3) := by decide +kernel
theorem dX3_orderNeighbours_70 : decode cX3_orderNeighbours 70 = .ok (.iinc 5 1, 3) := by decide +kernel
theorem dX3_orderNeighbours_73 : decode cX3_orderNeighbours 73 = .ok (.goto (-65), 3) := by decide +kernel
theorem dX3_orderNeighbours_76 : decode cX3_orderNeighbours 76 = .ok (.iload 4, 2) := by decide +kernel
theorem dX3_orderNeighbours_78 : decode cX3_orderNeighbours 78 = .ok (.ireturn, 1) := by decide +kernel
theorem dX3_insert_0 : decode cX3_insert 0 = .ok (.iload_n 2, 1) := by decide +kernel
theorem dX3_insert_1 : decode cX3_insert 1 = .ok (.istore_n 3, 1) := by decide +kernel
theorem dX3_insert_2 : decode cX3_insert 2 = .ok (.iload_n 3, 1) := by decide +kernel
theorem dX3_insert_3 : decode cX3_insert 3 = .ok (.ifCond .le 35, 3) := by decide +kernel
theorem dX3_insert_6 : decode cX3_insert 6 = .ok (.aload_n 0, 1) := by decide +kernel
theorem dX3_insert_7 : decode cX3_insert 7 = .ok (.getfield 17, 3) := by decide +kernel
theorem dX3_insert_10 : decode cX3_insert 10 = .ok (.iload_n 3, 1) := by decide +kernel
theorem dX3_insert_11 : decode cX3_insert 11 = .ok (.iconst 1, 1) := by decide +kernel
theorem dX3_insert_12 : decode cX3_insert 12 = .ok (.isub, 1) := by decide +kernel
theorem dX3_insert_13 : decode cX3_insert 13 = .ok (.iaload, 1) := by decide +kernel
theorem dX3_insert_14 : decode cX3_insert 14 = .ok (.iload_n 1, 1) := by decide +kernel
theorem dX3_insert_15 : decode cX3_insert 15 = .ok (.if_icmp .le 23, 3) := by decide +kernel
theorem dX3_insert_18 : decode cX3_insert 18 = .ok (.aload_n 0, 1) := by decide +kernel
theorem dX3_insert_19 : decode cX3_insert 19 = .ok (.getfield 17, 3) := by decide +kernel
theorem dX3_insert_22 : decode cX3_insert 22 = .ok (.iload_n 3, 1) := by decide +kernel
theorem dX3_insert_23 : decode cX3_insert 23 = .ok (.aload_n 0, 1) := by decide +kernel
theorem dX3_insert_24 : decode cX3_insert 24 = .ok (.getfield 17, 3) := by decide +kernel
theorem dX3_insert_27 : decode cX3_insert 27 = .ok (.iload_n 3, 1) := by decide +kernel
theorem dX3_insert_28 : decode cX3_insert 28 = .ok (.iconst 1, 1) := by decide +kernel
theorem dX3_insert_29 : decode cX3_insert 29 = .ok (.isub, 1) := by decide +kernel
theorem dX3_insert_30 : decode cX3_insert 30 = .ok (.iaload, 1) := by decide +kernel
theorem dX3_insert_31 : decode cX3_insert 31 = .ok (.iastore, 1) := by decide +kernel
theorem dX3_insert_32 : decode cX3_insert 32 = .ok (.iinc 3 (-1), 3) := by decide +kernel
theorem dX3_insert_35 : decode cX3_insert 35 = .ok (.goto (-33), 3) := by decide +kernel
theorem dX3_insert_38 : decode cX3_insert 38 = .ok (.aload_n 0, 1) := by decide +kernel
theorem dX3_insert_39 : decode cX3_insert 39 = .ok (.getfield 17, 3) := by decide +kernel
theorem dX3_insert_42 : decode cX3_insert 42 = .ok (.iload_n 3, 1) := by decide +kernel
theorem dX3_insert_43 : decode cX3_insert 43 = .ok (.iload_n 1, 1) := by decide +kernel
theorem dX3_insert_44 : decode cX3_insert 44 = .ok (.iastore, 1) := by decide +kernel
theorem dX3_insert_45 : decode cX3_insert 45 = .ok (.return_, 1) := by decide +kernel
set_option maxRecDepth 20000 in
theorem ggX4_leastSided_X4_peakOf : GoodIn wsX4_leastSided wsX4_peakOf := goodIn_r _ [4, 5, 6, 7, 8, 9, 10, 3, 11, 12, 13, 14, 15, 16, 17, 18] (by decide +kernel) (by decide +kernel)
set_option maxRecDepth 20000 in
theorem gX4_leastSided_X4_peakOf : GoodIn wsX4_leastSided (va_wsS RX4 7 yX4_peakOf wsX4_peakOf) := goodIn_app (goodIn_of _ (by decide +kernel)) ggX4_leastSided_X4_peakOf
set_option maxRecDepth 20000 in
theorem ggX4_leastSided_X4_flankOf : GoodIn wsX4_leastSided wsX4_flankOf := goodIn_r _ [21, 9, 10, 3, 11, 12, 13, 14, 15, 16, 17, 18] (by decide +kernel) (by decide +kernel)
set_option maxRecDepth 20000 in
theorem gX4_leastSided_X4_flankOf : GoodIn wsX4_leastSided (va_wsS RX4 13 yX4_flankOf wsX4_flankOf) := goodIn_app (goodIn_of _ (by decide +kernel)) ggX4_leastSided_X4_flankOf
theorem dX4_leastSided_0 : decode cX4_leastSided 0 = .ok (.iconst 0, 1) := by decide +kernel
theorem dX4_leastSided_1 : decode cX4_leastSided 1 = .ok (.istore_n 1, 1) := by decide +kernel
theorem dX4_leastSided_2 : decode cX4_leastSided 2 = .ok (.iconst 0, 1) := by decide +kernel
theorem dX4_leastSided_3 : decode cX4_leastSided 3 = .ok (.iload_n 0, 1) := by decide +kernel
theorem dX4_leastSided_4 : decode cX4_leastSided 4 = .ok (.iload_n 0, 1) := by decide +kernel
theorem dX4_leastSided_5 : decode cX4_leastSided 5 = .ok (.iload_n 0, 1) := by decide +kernel
theorem dX4_leastSided_6 : decode cX4_leastSided 6 = .ok (.imul, 1) := by decide +kernel
theorem dX4_leastSided_7 : decode cX4_leastSided 7 = .ok (.invokestatic 7, 3) := by decide +kernel
theorem dX4_leastSided_10 : decode cX4_leastSided 10 = .ok (.istore_n 2, 1) := by decide +kernel
theorem dX4_leastSided_11 : decode cX4_leastSided 11 = .ok (.iconst 0, 1) := by decide +kernel
theorem dX4_leastSided_12 : decode cX4_leastSided 12 = .ok (.iload_n 0, 1) := by decide +kernel
theorem dX4_leastSided_13 : decode cX4_leastSided 13 = .ok (.invokestatic 13, 3) := by decide +kernel
theorem dX4_leastSided_16 : decode cX4_leastSided 16 = .ok (.istore_n 3, 1) := by decide +kernel
theorem dX4_leastSided_17 : decode cX4_leastSided 17 = .ok (.iconst 1, 1) := by decide +kernel
theorem dX4_leastSided_18 : decode cX4_leastSided 18 = .ok (.iload_n 0, 1) := by decide +kernel
theorem dX4_leastSided_19 : decode cX4_leastSided 19 = .ok (.iconst 1, 1) := by decide +kernel
theorem dX4_leastSided_20 : decode cX4_leastSided 20 = .ok (.isub, 1) := by decide +kernel
theorem dX4_leastSided_21 : decode cX4_leastSided 21 = .ok (.ishl, 1) := by decide +kernel
theorem dX4_leastSided_22 : decode cX4_leastSided 22 = .ok (.istore 4, 2) := by decide +kernel
theorem dX4_leastSided_24 : decode cX4_leastSided 24 = .ok (.iconst 1, 1) := by decide +kernel
theorem dX4_leastSided_25 : decode cX4_leastSided 25 = .ok (.istore 5, 2) := by decide +kernel
theorem dX4_leastSided_27 : decode cX4_leastSided 27 = .ok (.iload 5, 2) := by decide +kernel
theorem dX4_leastSided_29 : decode cX4_leastSided 29 = .ok (.iload 4, 2) := by decide +kernel
theorem dX4_leastSided_31 : decode cX4_leastSided 31 = .ok (.if_icmp .ge 56, 3) := by decide +kernel
theorem dX4_leastSided_34 : decode cX4_leastSided 34 = .ok (.iload 5, 2) := by decide +kernel
theorem dX4_leastSided_36 : decode cX4_leastSided 36 = .ok (.iload_n 0, 1) := by decide +kernel
theorem dX4_leastSided_37 : decode cX4_leastSided 37 = .ok (.iload_n 2, 1) := by decide +kernel
theorem dX4_leastSided_38 : decode cX4_leastSided 38 = .ok (.invokestatic 7, 3) := by decide +kernel
theorem dX4_leastSided_41 : decode cX4_leastSided 41 = .ok (.istore 6, 2) := by decide +kernel
theorem dX4_leastSided_43 : decode cX4_leastSided 43 = .ok (.iload 6, 2) := by decide +kernel
theorem dX4_leastSided_45 : decode cX4_leastSided 45 = .ok (.iload_n 2, 1) := by decide +kernel
theorem dX4_leastSided_46 : decode cX4_leastSided 46 = .ok (.if_icmp .le 6, 3) := by decide +kernel
theorem dX4_leastSided_49 : decode cX4_leastSided 49 = .ok (.goto 32, 3) := by decide +kernel
theorem dX4_leastSided_52 : decode cX4_leastSided 52 = .ok (.iload 5, 2) := by decide +kernel
theorem dX4_leastSided_54 : decode cX4_leastSided 54 = .ok (.iload_n 0, 1) := by decide +kernel
theorem dX4_leastSided_55 : decode cX4_leastSided 55 = .ok (.invokestatic 13, 3) := by decide +kernel
theorem dX4_leastSided_58 : decode cX4_leastSided 58 = .ok (.istore 7, 2) := by decide +kernel
theorem dX4_leastSided_60 : decode cX4_leastSided 60 = .ok (.iload 6, 2) := by decide +kernel
theorem dX4_leastSided_62 : decode cX4_leastSided 62 = .ok (.iload_n 2, 1) := by decide +kernel
theorem dX4_leastSided_63 : decode cX4_leastSided 63 = .ok (.if_icmp .lt 9, 3) := by decide +kernel
theorem dX4_leastSided_66 : decode cX4_leastSided 66 = .ok (.iload 7, 2) := by decide +kernel
theorem dX4_leastSided_68 : decode cX4_leastSided 68 = .ok (.iload_n 3, 1) := by decide +kernel
theorem dX4_leastSided_69 : decode cX4_leastSided 69 = .ok (.if_icmp .ge 12, 3) := by decide +kernel
theorem dX4_leastSided_72 : decode cX4_leastSided 72 = .ok (.iload 5, 2) := by decide +kernel
theorem dX4_leastSided_74 : decode cX4_leastSided 74 = .ok (.istore_n 1, 1) := by decide +kernel
theorem dX4_leastSided_75 : decode cX4_leastSided 75 = .ok (.iload 6, 2) := by decide +kernel
theorem dX4_leastSided_77 : decode cX4_leastSided 77 = .ok (.istore_n 2, 1) := by decide +kernel
theorem dX4_leastSided_78 : decode cX4_leastSided 78 = .ok (.iload 7, 2) := by decide +kernel
theorem dX4_leastSided_80 : decode cX4_leastSided 80 = .ok (.istore_n 3, 1) := by decide +kernel
theorem dX4_leastSided_81 : decode cX4_leastSided 81 = .ok (.iinc 5 1, 3) := by decide +kernel
theorem dX4_leastSided_84 : decode cX4_leastSided 84 = .ok (.goto (-57), 3) := by decide +kernel
theorem dX4_leastSided_87 : decode cX4_leastSided 87 = .ok (.iload_n 1, 1) := by decide +kernel
theorem dX4_leastSided_88 : decode cX4_leastSided 88 = .ok (.ireturn, 1) := by decide +kernel
set_option maxRecDepth 20000 in
theorem ggX4_peakOf_X4_side : GoodIn wsX4_peakOf wsX4_side := goodIn_r _ [8, 9, 10, 11, 12, 13, 14, 15] (by decide +kernel) (by decide +kernel)
set_option maxRecDepth 20000 in
theorem gX4_peakOf_X4_side : GoodIn wsX4_peakOf (va_wsS RX4 17 yX4_side wsX4_side) := goodIn_app (goodIn_of _ (by decide +kernel)) ggX4_peakOf_X4_side
theorem dX4_peakOf_0 : decode cX4_peakOf 0 = .ok (.iconst 0, 1) := by decide +kernel
theorem dX4_peakOf_1 : decode cX4_peakOf 1 = .ok (.istore_n 3, 1) := by decide +kernel
theorem dX4_peakOf_2 : decode cX4_peakOf 2 = .ok (.iconst 1, 1) := by decide +kernel
theorem dX4_peakOf_3 : decode cX4_peakOf 3 = .ok (.istore 4, 2) := by decide +kernel
theorem dX4_peakOf_5 : decode cX4_peakOf 5 = .ok (.iload 4, 2) := by decide +kernel
theorem dX4_peakOf_7 : decode cX4_peakOf 7 = .ok (.iload_n 1, 1) := by decide +kernel
theorem dX4_peakOf_8 : decode cX4_peakOf 8 = .ok (.if_icmp .ge 26, 3) := by decide +kernel
theorem dX4_peakOf_11 : decode cX4_peakOf 11 = .ok (.iload_n 3, 1) := by decide +kernel
theorem dX4_peakOf_12 : decode cX4_peakOf 12 = .ok (.iload_n 2, 1) := by decide +kernel
theorem dX4_peakOf_13 : decode cX4_peakOf 13 = .ok (.if_icmp .gt 21, 3) := by decide +kernel
theorem dX4_peakOf_16 : decode cX4_peakOf 16 = .ok (.iload_n 3, 1) := by decide +kernel
theorem dX4_peakOf_17 : decode cX4_peakOf 17 = .ok (.iload_n 0, 1) := by decide +kernel
theorem dX4_peakOf_18 : decode cX4_peakOf 18 = .ok (.iload_n 1, 1) := by decide +kernel
theorem dX4_peakOf_19 : decode cX4_peakOf 19 = .ok (.iload 4, 2) := by decide +kernel
theorem dX4_peakOf_21 : decode cX4_peakOf 21 = .ok (.invokestatic 17, 3) := by decide +kernel
theorem dX4_peakOf_24 : decode cX4_peakOf 24 = .ok (.invokestatic 20, 3) := by decide +kernel
theorem dX4_peakOf_27 : decode cX4_peakOf 27 = .ok (.istore_n 3, 1) := by decide +kernel
theorem dX4_peakOf_28 : decode cX4_peakOf 28 = .ok (.iinc 4 1, 3) := by decide +kernel
theorem dX4_peakOf_31 : decode cX4_peakOf 31 = .ok (.goto (-26), 3) := by decide +kernel
theorem dX4_peakOf_34 : decode cX4_peakOf 34 = .ok (.iload_n 3, 1) := by decide +kernel
theorem dX4_peakOf_35 : decode cX4_peakOf 35 = .ok (.ireturn, 1) := by decide +kernel
set_option maxRecDepth 20000 in
theorem ggX4_flankOf_X4_side : GoodIn wsX4_flankOf wsX4_side := goodIn_r _ [4, 5, 6, 7, 8, 9, 10, 11] (by decide +kernel) (by decide +kernel)
set_option maxRecDepth 20000 in
theorem gX4_flankOf_X4_side : GoodIn wsX4_flankOf (va_wsS RX4 17 yX4_side wsX4_side) := goodIn_app (goodIn_of _ (by decide +kernel)) ggX4_flankOf_X4_side
theorem dX4_flankOf_0 : decode cX4_flankOf 0 = .ok (.iconst 0, 1) := by decide +kernel
theorem dX4_flankOf_1 : decode cX4_flankOf 1 = .ok (.istore_n 2, 1) := by decide +kernel
theorem dX4_flankOf_2 : decode cX4_flankOf 2 = .ok (.iconst 1, 1) := by decide +kernel
theorem dX4_flankOf_3 : decode cX4_flankOf 3 = .ok (.istore_n 3, 1) := by decide +kernel
theorem dX4_flankOf_4 : decode cX4_flankOf 4 = .ok (.iload_n 3, 1) := by decide +kernel
theorem dX4_flankOf_5 : decode cX4_flankOf 5 = .ok (.iload_n 1, 1) := by decide +kernel
theorem dX4_flankOf_6 : decode cX4_flankOf 6 = .ok (.if_icmp .ge 18, 3) := by decide +kernel
theorem dX4_flankOf_9 : decode cX4_flankOf 9 = .ok (.iload_n 2, 1) := by decide +kernel
theorem dX4_flankOf_10 : decode cX4_flankOf 10 = .ok (.iload_n 0, 1) := by decide +kernel
theorem dX4_flankOf_11 : decode cX4_flankOf 11 = .ok (.iload_n 1, 1) := by decide +kernel
theorem dX4_flankOf_12 : decode cX4_flankOf 12 = .ok (.iload_n 3, 1) := by decide +kernel
theorem dX4_flankOf_13 : decode cX4_flankOf 13 = .ok (.invokestatic 17, 3) := by decide +kernel
theorem dX4_flankOf_16 : decode cX4_flankOf 16 = .ok (.iadd, 1) := by decide +kernel
theorem dX4_flankOf_17 : decode cX4_flankOf 17 = .ok (.istore_n 2, 1) := by decide +kernel
theorem dX4_flankOf_18 : decode cX4_flankOf 18 = .ok (.iinc 3 1, 3) := by decide +kernel
theorem dX4_flankOf_21 : decode cX4_flankOf 21 = .ok (.goto (-17), 3) := by decide +kernel
theorem dX4_flankOf_24 : decode cX4_flankOf 24 = .ok (.iload_n 2, 1) := by decide +kernel
theorem dX4_flankOf_25 : decode cX4_flankOf 25 = .ok (.ireturn, 1) := by decide +kernel
set_option maxRecDepth 20000 in
theorem ggX4_side_J6_bitCount_0f7a4 : GoodIn wsX4_side wsJ6_bitCount_0f7a4 := goodIn_r _ [4, 5, 6, 7] (by decide +kernel) (by decide +kernel)
set_option maxRecDepth 20000 in
theorem gX4_side_J6_bitCount_0f7a4 : GoodIn wsX4_side (va_wsS RX4 25 yJ6_bitCount_0f7a4 wsJ6_bitCount_0f7a4) := goodIn_app (goodIn_of _ (by decide +kernel)) ggX4_side_J6_bitCount_0f7a4
theorem dX4_side_0 : decode cX4_side 0 = .ok (.iload_n 1, 1) := by decide +kernel
theorem dX4_side_1 : decode cX4_side 1 = .ok (.iload_n 2, 1) := by decide +kernel
theorem dX4_side_2 : decode cX4_side 2 = .ok (.isub, 1) := by decide +kernel
theorem dX4_side_3 : decode cX4_side 3 = .ok (.istore_n 3, 1) := by decide +kernel
theorem dX4_side_4 : decode cX4_side 4 = .ok (.iload_n 0, 1) := by decide +kernel
theorem dX4_side_5 : decode cX4_side 5 = .ok (.iload_n 0, 1) := by decide +kernel
theorem dX4_side_6 : decode cX4_side 6 = .ok (.iload_n 2, 1) := by decide +kernel
theorem dX4_side_7 : decode cX4_side 7 = .ok (.ishr, 1) := by decide +kernel
theorem dX4_side_8 : decode cX4_side 8 = .ok (.ixor, 1) := by decide +kernel
theorem dX4_side_9 : decode cX4_side 9 = .ok (.iconst 1, 1) := by decide +kernel
theorem dX4_side_10 : decode cX4_side 10 = .ok (.iload_n 3, 1) := by decide +kernel
theorem dX4_side_11 : decode cX4_side 11 = .ok (.ishl, 1) := by decide +kernel
theorem dX4_side_12 : decode cX4_side 12 = .ok (.iconst 1, 1) := by decide +kernel
theorem dX4_side_13 : decode cX4_side 13 = .ok (.isub, 1) := by decide +kernel
theorem dX4_side_14 : decode cX4_side 14 = .ok (.iand, 1) := by decide +kernel
theorem dX4_side_15 : decode cX4_side 15 = .ok (.invokestatic 25, 3) := by decide +kernel
theorem dX4_side_18 : decode cX4_side 18 = .ok (.istore 4, 2) := by decide +kernel
theorem dX4_side_20 : decode cX4_side 20 = .ok (.iload_n 3, 1) := by decide +kernel
theorem dX4_side_21 : decode cX4_side 21 = .ok (.iconst 2, 1) := by decide +kernel
theorem dX4_side_22 : decode cX4_side 22 = .ok (.iload 4, 2) := by decide +kernel
theorem dX4_side_24 : decode cX4_side 24 = .ok (.imul, 1) := by decide +kernel
theorem dX4_side_25 : decode cX4_side 25 = .ok (.isub, 1) := by decide +kernel
theorem dX4_side_26 : decode cX4_side 26 = .ok (.istore 5, 2) := by decide +kernel
theorem dX4_side_28 : decode cX4_side 28 = .ok (.iload 5, 2) := by decide +kernel
theorem dX4_side_30 : decode cX4_side 30 = .ok (.iload 5, 2) := by decide +kernel
theorem dX4_side_32 : decode cX4_side 32 = .ok (.imul, 1) := by decide +kernel
theorem dX4_side_33 : decode cX4_side 33 = .ok (.ireturn, 1) := by decide +kernel
theorem dX5_init_0 : decode cX5_init 0 = .ok (.aload_n 0, 1) := by decide +kernel
theorem dX5_init_1 : decode cX5_init 1 = .ok (.invokespecial 1, 3) := by decide +kernel
theorem dX5_init_4 : decode cX5_init 4 = .ok (.aload_n 0, 1) := by decide +kernel
theorem dX5_init_5 : decode cX5_init 5 = .ok (.bipush 16, 2) := by decide +kernel
theorem dX5_init_7 : decode cX5_init 7 = .ok (.newarray .int, 2) := by decide +kernel
theorem dX5_init_9 : decode cX5_init 9 = .ok (.putfield 9, 3) := by decide +kernel
theorem dX5_init_12 : decode cX5_init 12 = .ok (.aload_n 0, 1) := by decide +kernel
theorem dX5_init_13 : decode cX5_init 13 = .ok (.iconst 1, 1) := by decide +kernel
theorem dX5_init_14 : decode cX5_init 14 = .ok (.putfield 13, 3) := by decide +kernel
theorem dX5_init_17 : decode cX5_init 17 = .ok (.return_, 1) := by decide +kernel
set_option maxRecDepth 20000 in
theorem ggX5_has_X6_within : GoodIn wsX5_has wsX6_within := goodIn_r _ [4] (by decide +kernel) (by decide +kernel)
set_option maxRecDepth 20000 in
theorem gX5_has_X6_within_n17 : GoodIn wsX5_has (wsX6_within) := ggX5_has_X6_within
theorem dX5_has_0 : decode cX5_has 0 = .ok (.iload_n 1, 1) := by decide +kernel
theorem dX5_has_1 : decode cX5_has 1 = .ok (.iconst 0, 1) := by decide +kernel
theorem dX5_has_2 : decode cX5_has 2 = .ok (.aload_n 0, 1) := by decide +kernel
theorem dX5_has_3 : decode cX5_has 3 = .ok (.getfield 13, 3) := by decide +kernel
theorem dX5_has_6 : decode cX5_has 6 = .ok (.iconst 1, 1) := by decide +kernel
theorem dX5_has_7 : decode cX5_has 7 = .ok (.isub, 1) := by decide +kernel
theorem dX5_has_8 : decode cX5_has 8 = .ok (.invokestatic 17, 3) := by decide +kernel
theorem dX5_has_11 : decode cX5_has 11 = .ok (.ireturn, 1) := by decide +kernel
theorem dX5_reset_0 : decode cX5_reset 0 = .ok (.aload_n 0, 1) := by decide +kernel
theorem dX5_reset_1 : decode cX5_reset 1 = .ok (.iload_n 1, 1) := by decide +kernel
theorem dX5_reset_2 : decode cX5_reset 2 = .ok (.putfield 13, 3) := by decide +kernel
theorem dX5_reset_5 : decode cX5_reset 5 = .ok (.iconst 0, 1) := by decide +kernel
theorem dX5_reset_6 : decode cX5_reset 6 = .ok (.istore_n 2, 1) := by decide +kernel
theorem dX5_reset_7 : decode cX5_reset 7 = .ok (.iload_n 2, 1) := by decide +kernel
theorem dX5_reset_8 : decode cX5_reset 8 = .ok (.iload_n 1, 1) := by decide +kernel
theorem dX5_reset_9 : decode cX5_reset 9 = .ok (.if_icmp .ge 16, 3) := by decide +kernel
theorem dX5_reset_12 : decode cX5_reset 12 = .ok (.aload_n 0, 1) := by decide +kernel
theorem dX5_reset_13 : decode cX5_reset 13 = .ok (.getfield 9, 3) := by decide +kernel
theorem dX5_reset_16 : decode cX5_reset 16 = .ok (.iload_n 2, 1) := by decide +kernel
theorem dX5_reset_17 : decode cX5_reset 17 = .ok (.iconst 0, 1) := by decide +kernel
theorem dX5_reset_18 : decode cX5_reset 18 = .ok (.iastore, 1) := by decide +kernel
theorem dX5_reset_19 : decode cX5_reset 19 = .ok (.iinc 2 1, 3) := by decide +kernel
theorem dX5_reset_22 : decode cX5_reset 22 = .ok (.goto (-15), 3) := by decide +kernel
theorem dX5_reset_25 : decode cX5_reset 25 = .ok (.return_, 1) := by decide +kernel
theorem dX5_copy_0 : decode cX5_copy 0 = .ok (.aload_n 0, 1) := by decide +kernel
theorem dX5_copy_1 : decode cX5_copy 1 = .ok (.aload_n 1, 1) := by decide +kernel
theorem dX5_copy_2 : decode cX5_copy 2 = .ok (.getfield 13, 3) := by decide +kernel
theorem dX5_copy_5 : decode cX5_copy 5 = .ok (.putfield 13, 3) := by decide +kernel
theorem dX5_copy_8 : decode cX5_copy 8 = .ok (.iconst 0, 1) := by decide +kernel
theorem dX5_copy_9 : decode cX5_copy 9 = .ok (.istore_n 2, 1) := by decide +kernel
theorem dX5_copy_10 : decode cX5_copy 10 = .ok (.iload_n 2, 1) := by decide +kernel
theorem dX5_copy_11 : decode cX5_copy 11 = .ok (.aload_n 1, 1) := by decide +kernel
theorem dX5_copy_12 : decode cX5_copy 12 = .ok (.getfield 13, 3) := by decide +kernel
theorem dX5_copy_15 : decode cX5_copy 15 = .ok (.if_icmp .ge 21, 3) := by decide +kernel
theorem dX5_copy_18 : decode cX5_copy 18 = .ok (.aload_n 0, 1) := by decide +kernel
theorem dX5_copy_19 : decode cX5_copy 19 = .ok (.getfield 9, 3) := by decide +kernel
theorem dX5_copy_22 : decode cX5_copy 22 = .ok (.iload_n 2, 1) := by decide +kernel
theorem dX5_copy_23 : decode cX5_copy 23 = .ok (.aload_n 1, 1) := by decide +kernel
theorem dX5_copy_24 : decode cX5_copy 24 = .ok (.getfield 9, 3) := by decide +kernel
theorem dX5_copy_27 : decode cX5_copy 27 = .ok (.iload_n 2, 1) := by decide +kernel
theorem dX5_copy_28 : decode cX5_copy 28 = .ok (.iaload, 1) := by decide +kernel
theorem dX5_copy_29 : decode cX5_copy 29 = .ok (.iastore, 1) := by decide +kernel
theorem dX5_copy_30 : decode cX5_copy 30 = .ok (.iinc 2 1, 3) := by decide +kernel
theorem dX5_copy_33 : decode cX5_copy 33 = .ok (.goto (-23), 3) := by decide +kernel
theorem dX5_copy_36 : decode cX5_copy 36 = .ok (.return_, 1) := by decide +kernel
theorem dX5_reverse_0 : decode cX5_reverse 0 = .ok (.iconst 0, 1) := by decide +kernel
theorem dX5_reverse_1 : decode cX5_reverse 1 = .ok (.istore_n 1, 1) := by decide +kernel
theorem dX5_reverse_2 : decode cX5_reverse 2 = .ok (.iload_n 1, 1) := by decide +kernel
theorem dX5_reverse_3 : decode cX5_reverse 3 = .ok (.aload_n 0, 1) := by decide +kernel
theorem dX5_reverse_4 : decode cX5_reverse 4 = .ok (.getfield 13, 3) := by decide +kernel
theorem dX5_reverse_7 : decode cX5_reverse 7 = .ok (.iconst 2, 1) := by decide +kernel
theorem dX5_reverse_8 : decode cX5_reverse 8 = .ok (.idiv, 1) := by decide +kernel
theorem dX5_reverse_9 : decode cX5_reverse 9 = .ok (.if_icmp .ge 49, 3) := by decide +kernel
theorem dX5_reverse_12 : decode cX5_reverse 12 = .ok (.aload_n 0, 1) := by decide +kernel
theorem dX5_reverse_13 : decode cX5_reverse 13 = .ok (.getfield 9, 3) := by decide +kernel
theorem dX5_reverse_16 : decode cX5_reverse 16 = .ok (.iload_n 1, 1) := by decide +kernel
theorem dX5_reverse_17 : decode cX5_reverse 17 = .ok (.iaload, 1) := by decide +kernel
theorem dX5_reverse_18 : decode cX5_reverse 18 = .ok (.istore_n 2, 1) := by decide +kernel
theorem dX5_reverse_19 : decode cX5_reverse 19 = .ok (.aload_n 0, 1) := by decide +kernel
theorem dX5_reverse_20 : decode cX5_reverse 20 = .ok (.getfield 9, 3) := by decide +kernel
theorem dX5_reverse_23 : decode cX5_reverse 23 = .ok (.iload_n 1, 1) := by decide +kernel
theorem dX5_reverse_24 : decode cX5_reverse 24 = .ok (.aload_n 0, 1) := by decide +kernel
theorem dX5_reverse_25 : decode cX5_reverse 25 = .ok (.getfield 9, 3) := by decide +kernel
theorem dX5_reverse_28 : decode cX5_reverse 28 = .ok (.aload_n 0, 1) := by decide +kernel
theorem dX5_reverse_29 : decode cX5_reverse 29 = .ok (.getfield 13, 3) := by decide +kernel
theorem dX5_reverse_32 : decode cX5_reverse 32 = .ok (.iconst 1, 1) := by decide +kernel
theorem dX5_reverse_33 : decode cX5_reverse 33 = .ok (.isub, 1) := by decide +kernel
theorem dX5_reverse_34 : decode cX5_reverse 34 = .ok (.iload_n 1, 1) := by decide +kernel
theorem dX5_reverse_35 : decode cX5_reverse 35 = .ok (.isub, 1) := by decide +kernel
theorem dX5_reverse_36 : decode cX5_reverse 36 = .ok (.iaload, 1) := by decide +kernel
theorem dX5_reverse_37 : decode cX5_reverse 37 = .ok (.iastore, 1) := by decide +kernel
theorem dX5_reverse_38 : decode cX5_reverse 38 = .ok (.aload_n 0, 1) := by decide +kernel
theorem dX5_reverse_39 : decode cX5_reverse 39 = .ok (.getfield 9, 3) := by decide +kernel
theorem dX5_reverse_42 : decode cX5_reverse 42 = .ok (.aload_n 0, 1) := by decide +kernel
theorem dX5_reverse_43 : decode cX5_reverse 43 = .ok (.getfield 13, 3) := by decide +kernel
theorem dX5_reverse_46 : decode cX5_reverse 46 = .ok (.iconst 1, 1) := by decide +kernel
theorem dX5_reverse_47 : decode cX5_reverse 47 = .ok (.isub, 1) := by decide +kernel
theorem dX5_reverse_48 : decode cX5_reverse 48 = .ok (.iload_n 1, 1) := by decide +kernel
theorem dX5_reverse_49 : decode cX5_reverse 49 = .ok (.isub, 1) := by decide +kernel
theorem dX5_reverse_50 : decode cX5_reverse 50 = .ok (.iload_n 2, 1) := by decide +kernel
theorem dX5_reverse_51 : decode cX5_reverse 51 = .ok (.iastore, 1) := by decide +kernel
theorem dX5_reverse_52 : decode cX5_reverse 52 = .ok (.iinc 1 1, 3) := by decide +kernel
theorem dX5_reverse_55 : decode cX5_reverse 55 = .ok (.goto (-53), 3) := by decide +kernel
theorem dX5_reverse_58 : decode cX5_reverse 58 = .ok (.return_, 1) := by decide +kernel
theorem dX5_mirror_0 : decode cX5_mirror 0 = .ok (.iconst 0, 1) := by decide +kernel
theorem dX5_mirror_1 : decode cX5_mirror 1 = .ok (.istore_n 1, 1) := by decide +kernel
theorem dX5_mirror_2 : decode cX5_mirror 2 = .ok (.iload_n 1, 1) := by decide +kernel
theorem dX5_mirror_3 : decode cX5_mirror 3 = .ok (.aload_n 0, 1) := by decide +kernel
theorem dX5_mirror_4 : decode cX5_mirror 4 = .ok (.getfield 13, 3) := by decide +kernel
theorem dX5_mirror_7 : decode cX5_mirror 7 = .ok (.if_icmp .ge 24, 3) := by decide +kernel
theorem dX5_mirror_10 : decode cX5_mirror 10 = .ok (.aload_n 0, 1) := by decide +kernel
theorem dX5_mirror_11 : decode cX5_mirror 11 = .ok (.getfield 9, 3) := by decide +kernel
theorem dX5_mirror_14 : decode cX5_mirror 14 = .ok (.iload_n 1, 1) := by decide +kernel
theorem dX5_mirror_15 : decode cX5_mirror 15 = .ok (.aload_n 0, 1) := by decide +kernel
theorem dX5_mirror_16 : decode cX5_mirror 16 = .ok (.getfield 9, 3) := by decide +kernel
theorem dX5_mirror_19 : decode cX5_mirror 19 = .ok (.iload_n 1, 1) := by decide +kernel
theorem dX5_mirror_20 : decode cX5_mirror 20 = .ok (.iaload, 1) := by decide +kernel
theorem dX5_mirror_21 : decode cX5_mirror 21 = .ok (.ineg, 1) := by decide +kernel
theorem dX5_mirror_22 : decode cX5_mirror 22 = .ok (.iconst 3, 1) := by decide +kernel
theorem dX5_mirror_23 : decode cX5_mirror 23 = .ok (.iand, 1) := by decide +kernel
theorem dX5_mirror_24 : decode cX5_mirror 24 = .ok (.iastore, 1) := by decide +kernel
theorem dX5_mirror_25 : decode cX5_mirror 25 = .ok (.iinc 1 1, 3) := by decide +kernel
theorem dX5_mirror_28 : decode cX5_mirror 28 = .ok (.goto (-26), 3) := by decide +kernel
theorem dX5_mirror_31 : decode cX5_mirror 31 = .ok (.return_, 1) := by decide +kernel
theorem dX5_advance_0 : decode cX5_advance 0 = .ok (.iconst 0, 1) := by decide +kernel
theorem dX5_advance_1 : decode cX5_advance 1 = .ok (.istore_n 1, 1) := by decide +kernel
theorem dX5_advance_2 : decode cX5_advance 2 = .ok (.iload_n 1, 1) := by decide +kernel
theorem dX5_advance_3 : decode cX5_advance 3 = .ok (.aload_n 0, 1) := by decide +kernel
theorem dX5_advance_4 : decode cX5_advance 4 = .ok (.getfield 13, 3) := by decide +kernel
theorem dX5_advance_7 : decode cX5_advance 7 = .ok (.if_icmp .ge 25, 3) := by decide +kernel
theorem dX5_advance_10 : decode cX5_advance 10 = .ok (.aload_n 0, 1) := by decide +kernel
theorem dX5_advance_11 : decode cX5_advance 11 = .ok (.getfield 9, 3) := by decide +kernel
theorem dX5_advance_14 : decode cX5_advance 14 = .ok (.iload_n 1, 1) := by decide +kernel
theorem dX5_advance_15 : decode cX5_advance 15 = .ok (.aload_n 0, 1) := by decide +kernel
theorem dX5_advance_16 : decode cX5_advance 16 = .ok (.getfield 9, 3) := by decide +kernel
theorem dX5_advance_19 : decode cX5_advance 19 = .ok (.iload_n 1, 1) := by decide +kernel
theorem dX5_advance_20 : decode cX5_advance 20 = .ok (.iaload, 1) := by decide +kernel
theorem dX5_advance_21 : decode cX5_advance 21 = .ok (.iconst 1, 1) := by decide +kernel
theorem dX5_advance_22 : decode cX5_advance 22 = .ok (.iadd, 1) := by decide +kernel
theorem dX5_advance_23 : decode cX5_advance 23 = .ok (.iconst 3, 1) := by decide +kernel
theorem dX5_advance_24 : decode cX5_advance 24 = .ok (.iand, 1) := by decide +kernel
theorem dX5_advance_25 : decode cX5_advance 25 = .ok (.iastore, 1) := by decide +kernel
theorem dX5_advance_26 : decode cX5_advance 26 = .ok (.iinc 1 1, 3) := by decide +kernel
theorem dX5_advance_29 : decode cX5_advance 29 = .ok (.goto (-27), 3) := by decide +kernel
theorem dX5_advance_32 : decode cX5_advance 32 = .ok (.return_, 1) := by decide +kernel
theorem dX5_takeBits_0 : decode cX5_takeBits 0 = .ok (.aload_n 0, 1) := by decide +kernel
theorem dX5_takeBits_1 : decode cX5_takeBits 1 = .ok (.iload_n 2, 1) := by decide +kernel
theorem dX5_takeBits_2 : decode cX5_takeBits 2 = .ok (.putfield 13, 3) := by decide +kernel
theorem dX5_takeBits_5 : decode cX5_takeBits 5 = .ok (.iconst 0, 1) := by decide +kernel
theorem dX5_takeBits_6 : decode cX5_takeBits 6 = .ok (.istore_n 3, 1) := by decide +kernel
theorem dX5_takeBits_7 : decode cX5_takeBits 7 = .ok (.iload_n 3, 1) := by decide +kernel
theorem dX5_takeBits_8 : decode cX5_takeBits 8 = .ok (.iload_n 2, 1) := by decide +kernel
theorem dX5_takeBits_9 : decode cX5_takeBits 9 = .ok (.if_icmp .ge 26, 3) := by decide +kernel
theorem dX5_takeBits_12 : decode cX5_takeBits 12 = .ok (.aload_n 0, 1) := by decide +kernel
theorem dX5_takeBits_13 : decode cX5_takeBits 13 = .ok (.getfield 9, 3) := by decide +kernel
theorem dX5_takeBits_16 : decode cX5_takeBits 16 = .ok (.iload_n 3, 1) := by decide +kernel
theorem dX5_takeBits_17 : decode cX5_takeBits 17 = .ok (.iload_n 1, 1) := by decide +kernel
theorem dX5_takeBits_18 : decode cX5_takeBits 18 = .ok (.iload_n 2, 1) := by decide +kernel
theorem dX5_takeBits_19 : decode cX5_takeBits 19 = .ok (.iconst 1, 1) := by decide +kernel
theorem dX5_takeBits_20 : decode cX5_takeBits 20 = .ok (.isub, 1) := by decide +kernel
theorem dX5_takeBits_21 : decode cX5_takeBits 21 = .ok (.iload_n 3, 1) := by decide +kernel
theorem dX5_takeBits_22 : decode cX5_takeBits 22 = .ok (.isub, 1) := by decide +kernel
theorem dX5_takeBits_23 : decode cX5_takeBits 23 = .ok (.ishr, 1) := by decide +kernel
theorem dX5_takeBits_24 : decode cX5_takeBits 24 = .ok (.iconst 1, 1) := by decide +kernel
theorem dX5_takeBits_25 : decode cX5_takeBits 25 = .ok (.iand, 1) := by decide +kernel
theorem dX5_takeBits_26 : decode cX5_takeBits 26 = .ok (.iconst 2, 1) := by decide +kernel
theorem dX5_takeBits_27 : decode cX5_takeBits 27 = .ok (.imul, 1) := by decide +kernel
theorem dX5_takeBits_28 : decode cX5_takeBits 28 = .ok (.iastore, 1) := by decide +kernel
theorem dX5_takeBits_29 : decode cX5_takeBits 29 = .ok (.iinc 3 1, 3) := by decide +kernel
theorem dX5_takeBits_32 : decode cX5_takeBits 32 = .ok (.goto (-25), 3) := by decide +kernel
theorem dX5_takeBits_35 : decode cX5_takeBits 35 = .ok (.return_, 1) := by decide +kernel
set_option maxRecDepth 20000 in
theorem ggX5_lookPart_X5_has : GoodIn wsX5_lookPart wsX5_has := goodIn_r _ [7, 1, 8, 9, 10, 13, 14] (by decide +kernel) (by decide +kernel)
set_option maxRecDepth 20000 in
theorem gX5_lookPart_X5_has : GoodIn wsX5_lookPart (wsV RX5 23 RX5 yX5_has wsX5_has) := goodIn_app (goodIn_of _ (by decide +kernel)) ggX5_lookPart_X5_has
set_option maxRecDepth 20000 in
theorem ggX5_lookPart_X6_partOfTurn : GoodIn wsX5_lookPart wsX6_partOfTurn := goodIn_r _ [12] (by decide +kernel) (by decide +kernel)
set_option maxRecDepth 20000 in
theorem gX5_lookPart_X6_partOfTurn_n27 : GoodIn wsX5_lookPart (wsX6_partOfTurn) := ggX5_lookPart_X6_partOfTurn
theorem dX5_lookPart_0 : decode cX5_lookPart 0 = .ok (.iconst 0, 1) := by decide +kernel
theorem dX5_lookPart_1 : decode cX5_lookPart 1 = .ok (.istore 5, 2) := by decide +kernel
theorem dX5_lookPart_3 : decode cX5_lookPart 3 = .ok (.iconst 0, 1) := by decide +kernel
theorem dX5_lookPart_4 : decode cX5_lookPart 4 = .ok (.istore 6, 2) := by decide +kernel
theorem dX5_lookPart_6 : decode cX5_lookPart 6 = .ok (.iload 6, 2) := by decide +kernel
theorem dX5_lookPart_8 : decode cX5_lookPart 8 = .ok (.aload_n 0, 1) := by decide +kernel
theorem dX5_lookPart_9 : decode cX5_lookPart 9 = .ok (.getfield 13, 3) := by decide +kernel
theorem dX5_lookPart_12 : decode cX5_lookPart 12 = .ok (.if_icmp .ge 52, 3) := by decide +kernel
theorem dX5_lookPart_15 : decode cX5_lookPart 15 = .ok (.aload_n 1, 1) := by decide +kernel
theorem dX5_lookPart_16 : decode cX5_lookPart 16 = .ok (.iload 6, 2) := by decide +kernel
theorem dX5_lookPart_18 : decode cX5_lookPart 18 = .ok (.iload_n 2, 1) := by decide +kernel
theorem dX5_lookPart_19 : decode cX5_lookPart 19 = .ok (.iadd, 1) := by decide +kernel
theorem dX5_lookPart_20 : decode cX5_lookPart 20 = .ok (.invokevirtual 23, 3) := by decide +kernel
theorem dX5_lookPart_23 : decode cX5_lookPart 23 = .ok (.ifCond .eq 35, 3) := by decide +kernel
theorem dX5_lookPart_26 : decode cX5_lookPart 26 = .ok (.iload 5, 2) := by decide +kernel
theorem dX5_lookPart_28 : decode cX5_lookPart 28 = .ok (.aload_n 0, 1) := by decide +kernel
theorem dX5_lookPart_29 : decode cX5_lookPart 29 = .ok (.getfield 9, 3) := by decide +kernel
theorem dX5_lookPart_32 : decode cX5_lookPart 32 = .ok (.iload 6, 2) := by decide +kernel
theorem dX5_lookPart_34 : decode cX5_lookPart 34 = .ok (.iaload, 1) := by decide +kernel
theorem dX5_lookPart_35 : decode cX5_lookPart 35 = .ok (.aload_n 1, 1) := by decide +kernel
theorem dX5_lookPart_36 : decode cX5_lookPart 36 = .ok (.getfield 9, 3) := by decide +kernel
theorem dX5_lookPart_39 : decode cX5_lookPart 39 = .ok (.iload 6, 2) := by decide +kernel
theorem dX5_lookPart_41 : decode cX5_lookPart 41 = .ok (.iload_n 2, 1) := by decide +kernel
theorem dX5_lookPart_42 : decode cX5_lookPart 42 = .ok (.iadd, 1) := by decide +kernel
theorem dX5_lookPart_43 : decode cX5_lookPart 43 = .ok (.iaload, 1) := by decide +kernel
theorem dX5_lookPart_44 : decode cX5_lookPart 44 = .ok (.isub, 1) := by decide +kernel
theorem dX5_lookPart_45 : decode cX5_lookPart 45 = .ok (.iload_n 3, 1) := by decide +kernel
theorem dX5_lookPart_46 : decode cX5_lookPart 46 = .ok (.iload 6, 2) := by decide +kernel
theorem dX5_lookPart_48 : decode cX5_lookPart 48 = .ok (.imul, 1) := by decide +kernel
theorem dX5_lookPart_49 : decode cX5_lookPart 49 = .ok (.iadd, 1) := by decide +kernel
theorem dX5_lookPart_50 : decode cX5_lookPart 50 = .ok (.iload 4, 2) := by decide +kernel
theorem dX5_lookPart_52 : decode cX5_lookPart 52 = .ok (.invokestatic 27, 3) := by decide +kernel
theorem dX5_lookPart_55 : decode cX5_lookPart 55 = .ok (.iadd, 1) := by decide +kernel
theorem dX5_lookPart_56 : decode cX5_lookPart 56 = .ok (.istore 5, 2) := by decide +kernel
theorem dX5_lookPart_58 : decode cX5_lookPart 58 = .ok (.iinc 6 1, 3) := by decide +kernel
theorem dX5_lookPart_61 : decode cX5_lookPart 61 = .ok (.goto (-55), 3) := by decide +kernel
theorem dX5_lookPart_64 : decode cX5_lookPart 64 = .ok (.iload 5, 2) := by decide +kernel
theorem dX5_lookPart_66 : decode cX5_lookPart 66 = .ok (.ireturn, 1) := by decide +kernel
set_option maxRecDepth 20000 in
theorem ggX5_ownLookSize_X5_lookPart : GoodIn wsX5_ownLookSize wsX5_lookPart := goodIn_r _ [5, 6, 7, 8, 9, 10, 4, 11, 12, 13, 14, 15, 16, 17, 18] (by decide +kernel) (by decide +kernel)
set_option maxRecDepth 20000 in
theorem gX5_ownLookSize_X5_lookPart : GoodIn wsX5_ownLookSize (wsV RX5 31 RX5 yX5_lookPart wsX5_lookPart) := goodIn_app (goodIn_of _ (by decide +kernel)) ggX5_ownLookSize_X5_lookPart
theorem dX5_ownLookSize_0 : decode cX5_ownLookSize 0 = .ok (.aload_n 0, 1) := by decide +kernel
theorem dX5_ownLookSize_1 : decode cX5_ownLookSize 1 = .ok (.aload_n 0, 1) := by decide +kernel
theorem dX5_ownLookSize_2 : decode cX5_ownLookSize 2 = .ok (.iload_n 1, 1) := by decide +kernel
theorem dX5_ownLookSize_3 : decode cX5_ownLookSize 3 = .ok (.iload_n 2, 1) := by decide +kernel
theorem dX5_ownLookSize_4 : decode cX5_ownLookSize 4 = .ok (.iconst 0, 1) := by decide +kernel
theorem dX5_ownLookSize_5 : decode cX5_ownLookSize 5 = .ok (.invokevirtual 31, 3) := by decide +kernel
theorem dX5_ownLookSize_8 : decode cX5_ownLookSize 8 = .ok (.istore_n 3, 1) := by decide +kernel
theorem dX5_ownLookSize_9 : decode cX5_ownLookSize 9 = .ok (.aload_n 0, 1) := by decide +kernel
theorem dX5_ownLookSize_10 : decode cX5_ownLookSize 10 = .ok (.aload_n 0, 1) := by decide +kernel
theorem dX5_ownLookSize_11 : decode cX5_ownLookSize 11 = .ok (.iload_n 1, 1) := by decide +kernel
theorem dX5_ownLookSize_12 : decode cX5_ownLookSize 12 = .ok (.iload_n 2, 1) := by decide +kernel
theorem dX5_ownLookSize_13 : decode cX5_ownLookSize 13 = .ok (.iconst 1, 1) := by decide +kernel
theorem dX5_ownLookSize_14 : decode cX5_ownLookSize 14 = .ok (.invokevirtual 31, 3) := by decide +kernel
theorem dX5_ownLookSize_17 : decode cX5_ownLookSize 17 = .ok (.istore 4, 2) := by decide +kernel
theorem dX5_ownLookSize_19 : decode cX5_ownLookSize 19 = .ok (.iload_n 3, 1) := by decide +kernel
theorem dX5_ownLookSize_20 : decode cX5_ownLookSize 20 = .ok (.iload_n 3, 1) := by decide +kernel
theorem dX5_ownLookSize_21 : decode cX5_ownLookSize 21 = .ok (.imul, 1) := by decide +kernel
theorem dX5_ownLookSize_22 : decode cX5_ownLookSize 22 = .ok (.iload 4, 2) := by decide +kernel
theorem dX5_ownLookSize_24 : decode cX5_ownLookSize 24 = .ok (.iload 4, 2) := by decide +kernel
theorem dX5_ownLookSize_26 : decode cX5_ownLookSize 26 = .ok (.imul, 1) := by decide +kernel
theorem dX5_ownLookSize_27 : decode cX5_ownLookSize 27 = .ok (.iadd, 1) := by decide +kernel
theorem dX5_ownLookSize_28 : decode cX5_ownLookSize 28 = .ok (.ireturn, 1) := by decide +kernel
set_option maxRecDepth 20000 in
theorem ggX5_greatestSide_X5_ownLookSize : GoodIn wsX5_greatestSide wsX5_ownLookSize := goodIn_r _ [10, 11, 12, 13, 9, 14, 1, 15, 16, 17, 18, 19, 20, 21, 22, 23, 24, 25, 26] (by decide +kernel) (by decide +kernel)
set_option maxRecDepth 20000 in
theorem gX5_greatestSide_X5_ownLookSize : GoodIn wsX5_greatestSide (wsV RX5 35 RX5 yX5_ownLookSize wsX5_ownLookSize) := goodIn_app (goodIn_of _ (by decide +kernel)) ggX5_greatestSide_X5_ownLookSize
theorem dX5_greatestSide_0 : decode cX5_greatestSide 0 = .ok (.iconst 0, 1) := by decide +kernel
theorem dX5_greatestSide_1 : decode cX5_greatestSide 1 = .ok (.istore_n 1, 1) := by decide +kernel
theorem dX5_greatestSide_2 : decode cX5_greatestSide 2 = .ok (.iconst 1, 1) := by decide +kernel
theorem dX5_greatestSide_3 : decode cX5_greatestSide 3 = .ok (.istore_n 2, 1) := by decide +kernel
theorem dX5_greatestSide_4 : decode cX5_greatestSide 4 = .ok (.iload_n 2, 1) := by decide +kernel
theorem dX5_greatestSide_5 : decode cX5_greatestSide 5 = .ok (.aload_n 0, 1) := by decide +kernel
theorem dX5_greatestSide_6 : decode cX5_greatestSide 6 = .ok (.getfield 13, 3) := by decide +kernel
theorem dX5_greatestSide_9 : decode cX5_greatestSide 9 = .ok (.if_icmp .ge 20, 3) := by decide +kernel
theorem dX5_greatestSide_12 : decode cX5_greatestSide 12 = .ok (.iload_n 1, 1) := by decide +kernel
theorem dX5_greatestSide_13 : decode cX5_greatestSide 13 = .ok (.aload_n 0, 1) := by decide +kernel
theorem dX5_greatestSide_14 : decode cX5_greatestSide 14 = .ok (.iload_n 2, 1) := by decide +kernel
theorem dX5_greatestSide_15 : decode cX5_greatestSide 15 = .ok (.iconst 0, 1) := by decide +kernel
theorem dX5_greatestSide_16 : decode cX5_greatestSide 16 = .ok (.invokevirtual 35, 3) := by decide +kernel
theorem dX5_greatestSide_19 : decode cX5_greatestSide 19 = .ok (.invokestatic 38, 3) := by decide +kernel
theorem dX5_greatestSide_22 : decode cX5_greatestSide 22 = .ok (.istore_n 1, 1) := by decide +kernel
theorem dX5_greatestSide_23 : decode cX5_greatestSide 23 = .ok (.iinc 2 1, 3) := by decide +kernel
theorem dX5_greatestSide_26 : decode cX5_greatestSide 26 = .ok (.goto (-22), 3) := by decide +kernel
theorem dX5_greatestSide_29 : decode cX5_greatestSide 29 = .ok (.iload_n 1, 1) := by decide +kernel
theorem dX5_greatestSide_30 : decode cX5_greatestSide 30 = .ok (.ireturn, 1) := by decide +kernel
set_option maxRecDepth 20000 in
theorem ggX5_sumOfSides_X5_ownLookSize : GoodIn wsX5_sumOfSides wsX5_ownLookSize := goodIn_r _ [6, 7, 8, 9, 5, 10, 1, 11, 12, 13, 14, 15, 16, 17, 18, 19, 20, 21, 22] (by decide +kernel) (by decide +kernel)
set_option maxRecDepth 20000 in
theorem gX5_sumOfSides_X5_ownLookSize : GoodIn wsX5_sumOfSides (wsV RX5 35 RX5 yX5_ownLookSize wsX5_ownLookSize) := goodIn_app (goodIn_of _ (by decide +kernel)) ggX5_sumOfSides_X5_ownLookSize
theorem dX5_sumOfSides_0 : decode cX5_sumOfSides 0 = .ok (.iconst 0, 1) := by decide +kernel
theorem dX5_sumOfSides_1 : decode cX5_sumOfSides 1 = .ok (.istore_n 1, 1) := by decide +kernel
theorem dX5_sumOfSides_2 : decode cX5_sumOfSides 2 = .ok (.iconst 1, 1) := by decide +kernel
theorem dX5_sumOfSides_3 : decode cX5_sumOfSides 3 = .ok (.istore_n 2, 1) := by decide +kernel
theorem dX5_sumOfSides_4 : decode cX5_sumOfSides 4 = .ok (.iload_n 2, 1) := by decide +kernel
theorem dX5_sumOfSides_5 : decode cX5_sumOfSides 5 = .ok (.aload_n 0, 1) := by decide +kernel
theorem dX5_sumOfSides_6 : decode cX5_sumOfSides 6 = .ok (.getfield 13, 3) := by decide +kernel
theorem dX5_sumOfSides_9 : decode cX5_sumOfSides 9 = .ok (.if_icmp .ge 18, 3) := by decide +kernel
end
section
theorem dX5_sumOfSides_12 : decode cX5_sumOfSides 12 = .ok (.iload_n 1, 1) := by decide +kernel
theorem dX5_sumOfSides_13 : decode cX5_sumOfSides 13 = .ok (.aload_n 0, 1) := by decide +kernel
theorem dX5_sumOfSides_14 : decode cX5_sumOfSides 14 = .ok (.iload_n 2, 1) := by decide +kernel
theorem dX5_sumOfSides_15 : decode cX5_sumOfSides 15 = .ok (.iconst 0, 1) := by decide +kernel
theorem dX5_sumOfSides_16 : decode cX5_sumOfSides 16 = .ok (.invokevirtual 35, 3) := by decide +kernel
theorem dX5_sumOfSides_19 : decode cX5_sumOfSides 19 = .ok (.iadd, 1) := by decide +kernel
theorem dX5_sumOfSides_20 : decode cX5_sumOfSides 20 = .ok (.istore_n 1, 1) := by decide +kernel
theorem dX5_sumOfSides_21 : decode cX5_sumOfSides 21 = .ok (.iinc 2 1, 3) := by decide +kernel
theorem dX5_sumOfSides_24 : decode cX5_sumOfSides 24 = .ok (.goto (-20), 3) := by decide +kernel
theorem dX5_sumOfSides_27 : decode cX5_sumOfSides 27 = .ok (.iload_n 1, 1) := by decide +kernel
theorem dX5_sumOfSides_28 : decode cX5_sumOfSides 28 = .ok (.ireturn, 1) := by decide +kernel
set_option maxRecDepth 20000 in
theorem ggX5_greatestOwnLook_X5_ownLookSize : GoodIn wsX5_greatestOwnLook wsX5_ownLookSize := goodIn_r _ [9, 10, 11, 12, 8, 13, 14, 15, 16, 17, 18, 19, 20, 21, 22, 23, 24, 25, 26] (by decide +kernel) (by decide +kernel)
set_option maxRecDepth 20000 in
theorem gX5_greatestOwnLook_X5_ownLookSize : GoodIn wsX5_greatestOwnLook (wsV RX5 35 RX5 yX5_ownLookSize wsX5_ownLookSize) := goodIn_app (goodIn_of _ (by decide +kernel)) ggX5_greatestOwnLook_X5_ownLookSize
theorem dX5_greatestOwnLook_0 : decode cX5_greatestOwnLook 0 = .ok (.iconst 0, 1) := by decide +kernel
theorem dX5_greatestOwnLook_1 : decode cX5_greatestOwnLook 1 = .ok (.istore_n 1, 1) := by decide +kernel
theorem dX5_greatestOwnLook_2 : decode cX5_greatestOwnLook 2 = .ok (.bipush (-15), 2) := by decide +kernel
theorem dX5_greatestOwnLook_4 : decode cX5_greatestOwnLook 4 = .ok (.istore_n 2, 1) := by decide +kernel
theorem dX5_greatestOwnLook_5 : decode cX5_greatestOwnLook 5 = .ok (.iload_n 2, 1) := by decide +kernel
theorem dX5_greatestOwnLook_6 : decode cX5_greatestOwnLook 6 = .ok (.bipush 15, 2) := by decide +kernel
theorem dX5_greatestOwnLook_8 : decode cX5_greatestOwnLook 8 = .ok (.if_icmp .gt 41, 3) := by decide +kernel
theorem dX5_greatestOwnLook_11 : decode cX5_greatestOwnLook 11 = .ok (.iconst 0, 1) := by decide +kernel
theorem dX5_greatestOwnLook_12 : decode cX5_greatestOwnLook 12 = .ok (.istore_n 3, 1) := by decide +kernel
theorem dX5_greatestOwnLook_13 : decode cX5_greatestOwnLook 13 = .ok (.iload_n 3, 1) := by decide +kernel
theorem dX5_greatestOwnLook_14 : decode cX5_greatestOwnLook 14 = .ok (.iconst 3, 1) := by decide +kernel
theorem dX5_greatestOwnLook_15 : decode cX5_greatestOwnLook 15 = .ok (.if_icmp .gt 28, 3) := by decide +kernel
theorem dX5_greatestOwnLook_18 : decode cX5_greatestOwnLook 18 = .ok (.iload_n 2, 1) := by decide +kernel
theorem dX5_greatestOwnLook_19 : decode cX5_greatestOwnLook 19 = .ok (.ifCond .ne 7, 3) := by decide +kernel
theorem dX5_greatestOwnLook_22 : decode cX5_greatestOwnLook 22 = .ok (.iload_n 3, 1) := by decide +kernel
theorem dX5_greatestOwnLook_23 : decode cX5_greatestOwnLook 23 = .ok (.ifCond .eq 14, 3) := by decide +kernel
theorem dX5_greatestOwnLook_26 : decode cX5_greatestOwnLook 26 = .ok (.iload_n 1, 1) := by decide +kernel
theorem dX5_greatestOwnLook_27 : decode cX5_greatestOwnLook 27 = .ok (.aload_n 0, 1) := by decide +kernel
theorem dX5_greatestOwnLook_28 : decode cX5_greatestOwnLook 28 = .ok (.iload_n 2, 1) := by decide +kernel
theorem dX5_greatestOwnLook_29 : decode cX5_greatestOwnLook 29 = .ok (.iload_n 3, 1) := by decide +kernel
theorem dX5_greatestOwnLook_30 : decode cX5_greatestOwnLook 30 = .ok (.invokevirtual 35, 3) := by decide +kernel
theorem dX5_greatestOwnLook_33 : decode cX5_greatestOwnLook 33 = .ok (.invokestatic 38, 3) := by decide +kernel
theorem dX5_greatestOwnLook_36 : decode cX5_greatestOwnLook 36 = .ok (.istore_n 1, 1) := by decide +kernel
theorem dX5_greatestOwnLook_37 : decode cX5_greatestOwnLook 37 = .ok (.iinc 3 1, 3) := by decide +kernel
theorem dX5_greatestOwnLook_40 : decode cX5_greatestOwnLook 40 = .ok (.goto (-27), 3) := by decide +kernel
theorem dX5_greatestOwnLook_43 : decode cX5_greatestOwnLook 43 = .ok (.iinc 2 1, 3) := by decide +kernel
theorem dX5_greatestOwnLook_46 : decode cX5_greatestOwnLook 46 = .ok (.goto (-41), 3) := by decide +kernel
theorem dX5_greatestOwnLook_49 : decode cX5_greatestOwnLook 49 = .ok (.iload_n 1, 1) := by decide +kernel
theorem dX5_greatestOwnLook_50 : decode cX5_greatestOwnLook 50 = .ok (.ireturn, 1) := by decide +kernel
set_option maxRecDepth 20000 in
theorem ggX5_sidesGoOutWith_X5_lookPart : GoodIn wsX5_sidesGoOutWith wsX5_lookPart := goodIn_r _ [6, 1, 7, 8, 9, 10, 5, 11, 12, 13, 14, 15, 16, 17, 18] (by decide +kernel) (by decide +kernel)
set_option maxRecDepth 20000 in
theorem gX5_sidesGoOutWith_X5_lookPart : GoodIn wsX5_sidesGoOutWith (wsV RX5 31 RX5 yX5_lookPart wsX5_lookPart) := goodIn_app (goodIn_of _ (by decide +kernel)) ggX5_sidesGoOutWith_X5_lookPart
theorem dX5_sidesGoOutWith_0 : decode cX5_sidesGoOutWith 0 = .ok (.aload_n 0, 1) := by decide +kernel
theorem dX5_sidesGoOutWith_1 : decode cX5_sidesGoOutWith 1 = .ok (.getfield 13, 3) := by decide +kernel
theorem dX5_sidesGoOutWith_4 : decode cX5_sidesGoOutWith 4 = .ok (.aload_n 1, 1) := by decide +kernel
theorem dX5_sidesGoOutWith_5 : decode cX5_sidesGoOutWith 5 = .ok (.getfield 13, 3) := by decide +kernel
theorem dX5_sidesGoOutWith_8 : decode cX5_sidesGoOutWith 8 = .ok (.if_icmp .eq 5, 3) := by decide +kernel
theorem dX5_sidesGoOutWith_11 : decode cX5_sidesGoOutWith 11 = .ok (.iconst 0, 1) := by decide +kernel
theorem dX5_sidesGoOutWith_12 : decode cX5_sidesGoOutWith 12 = .ok (.ireturn, 1) := by decide +kernel
theorem dX5_sidesGoOutWith_13 : decode cX5_sidesGoOutWith 13 = .ok (.iconst 1, 1) := by decide +kernel
theorem dX5_sidesGoOutWith_14 : decode cX5_sidesGoOutWith 14 = .ok (.istore_n 2, 1) := by decide +kernel
theorem dX5_sidesGoOutWith_15 : decode cX5_sidesGoOutWith 15 = .ok (.iload_n 2, 1) := by decide +kernel
theorem dX5_sidesGoOutWith_16 : decode cX5_sidesGoOutWith 16 = .ok (.aload_n 0, 1) := by decide +kernel
theorem dX5_sidesGoOutWith_17 : decode cX5_sidesGoOutWith 17 = .ok (.getfield 13, 3) := by decide +kernel
theorem dX5_sidesGoOutWith_20 : decode cX5_sidesGoOutWith 20 = .ok (.if_icmp .ge 44, 3) := by decide +kernel
theorem dX5_sidesGoOutWith_23 : decode cX5_sidesGoOutWith 23 = .ok (.iconst 0, 1) := by decide +kernel
theorem dX5_sidesGoOutWith_24 : decode cX5_sidesGoOutWith 24 = .ok (.istore_n 3, 1) := by decide +kernel
theorem dX5_sidesGoOutWith_25 : decode cX5_sidesGoOutWith 25 = .ok (.iload_n 3, 1) := by decide +kernel
theorem dX5_sidesGoOutWith_26 : decode cX5_sidesGoOutWith 26 = .ok (.iconst 1, 1) := by decide +kernel
theorem dX5_sidesGoOutWith_27 : decode cX5_sidesGoOutWith 27 = .ok (.if_icmp .gt 31, 3) := by decide +kernel
theorem dX5_sidesGoOutWith_30 : decode cX5_sidesGoOutWith 30 = .ok (.aload_n 0, 1) := by decide +kernel
theorem dX5_sidesGoOutWith_31 : decode cX5_sidesGoOutWith 31 = .ok (.aload_n 0, 1) := by decide +kernel
theorem dX5_sidesGoOutWith_32 : decode cX5_sidesGoOutWith 32 = .ok (.iload_n 2, 1) := by decide +kernel
theorem dX5_sidesGoOutWith_33 : decode cX5_sidesGoOutWith 33 = .ok (.iconst 0, 1) := by decide +kernel
theorem dX5_sidesGoOutWith_34 : decode cX5_sidesGoOutWith 34 = .ok (.iload_n 3, 1) := by decide +kernel
theorem dX5_sidesGoOutWith_35 : decode cX5_sidesGoOutWith 35 = .ok (.invokevirtual 31, 3) := by decide +kernel
theorem dX5_sidesGoOutWith_38 : decode cX5_sidesGoOutWith 38 = .ok (.aload_n 1, 1) := by decide +kernel
theorem dX5_sidesGoOutWith_39 : decode cX5_sidesGoOutWith 39 = .ok (.aload_n 1, 1) := by decide +kernel
theorem dX5_sidesGoOutWith_40 : decode cX5_sidesGoOutWith 40 = .ok (.iload_n 2, 1) := by decide +kernel
theorem dX5_sidesGoOutWith_41 : decode cX5_sidesGoOutWith 41 = .ok (.iconst 0, 1) := by decide +kernel
theorem dX5_sidesGoOutWith_42 : decode cX5_sidesGoOutWith 42 = .ok (.iload_n 3, 1) := by decide +kernel
theorem dX5_sidesGoOutWith_43 : decode cX5_sidesGoOutWith 43 = .ok (.invokevirtual 31, 3) := by decide +kernel
theorem dX5_sidesGoOutWith_46 : decode cX5_sidesGoOutWith 46 = .ok (.iadd, 1) := by decide +kernel
theorem dX5_sidesGoOutWith_47 : decode cX5_sidesGoOutWith 47 = .ok (.ifCond .eq 5, 3) := by decide +kernel
theorem dX5_sidesGoOutWith_50 : decode cX5_sidesGoOutWith 50 = .ok (.iconst 0, 1) := by decide +kernel
theorem dX5_sidesGoOutWith_51 : decode cX5_sidesGoOutWith 51 = .ok (.ireturn, 1) := by decide +kernel
theorem dX5_sidesGoOutWith_52 : decode cX5_sidesGoOutWith 52 = .ok (.iinc 3 1, 3) := by decide +kernel
theorem dX5_sidesGoOutWith_55 : decode cX5_sidesGoOutWith 55 = .ok (.goto (-30), 3) := by decide +kernel
theorem dX5_sidesGoOutWith_58 : decode cX5_sidesGoOutWith 58 = .ok (.iinc 2 1, 3) := by decide +kernel
theorem dX5_sidesGoOutWith_61 : decode cX5_sidesGoOutWith 61 = .ok (.goto (-46), 3) := by decide +kernel
theorem dX5_sidesGoOutWith_64 : decode cX5_sidesGoOutWith 64 = .ok (.iconst 1, 1) := by decide +kernel
theorem dX5_sidesGoOutWith_65 : decode cX5_sidesGoOutWith 65 = .ok (.ireturn, 1) := by decide +kernel
set_option maxRecDepth 20000 in
theorem ggX6_init_X1_init : GoodIn wsX6_init wsX1_init := goodIn_r _ [23, 24, 2, 3, 25, 26, 27, 55, 56] (by decide +kernel) (by decide +kernel)
set_option maxRecDepth 20000 in
theorem gX6_init_X1_init : GoodIn wsX6_init (wsX1_init) := ggX6_init_X1_init
set_option maxRecDepth 20000 in
theorem ggX6_init_X2_init : GoodIn wsX6_init wsX2_init := goodIn_r _ [30, 31, 2, 3, 25, 32, 33, 34, 35, 36, 12, 37, 38, 57, 58, 59] (by decide +kernel) (by decide +kernel)
set_option maxRecDepth 20000 in
theorem gX6_init_X2_init : GoodIn wsX6_init (wsX2_init) := ggX6_init_X2_init
set_option maxRecDepth 20000 in
theorem ggX6_init_X3_init : GoodIn wsX6_init wsX3_init := goodIn_r _ [40, 41, 2, 3, 25, 42, 43, 44, 60, 61, 62] (by decide +kernel) (by decide +kernel)
set_option maxRecDepth 20000 in
theorem gX6_init_X3_init_n31 : GoodIn wsX6_init (wsX3_init) := ggX6_init_X3_init
set_option maxRecDepth 20000 in
theorem ggX6_init_X5_init : GoodIn wsX6_init wsX5_init := goodIn_r _ [46, 47, 2, 3, 25, 48, 49, 63, 64] (by decide +kernel) (by decide +kernel)
set_option maxRecDepth 20000 in
theorem gX6_init_X5_init_n40 : GoodIn wsX6_init (wsX5_init) := ggX6_init_X5_init
theorem dX6_init_0 : decode cX6_init 0 = .ok (.aload_n 0, 1) := by decide +kernel
theorem dX6_init_1 : decode cX6_init 1 = .ok (.invokespecial 1, 3) := by decide +kernel
theorem dX6_init_4 : decode cX6_init 4 = .ok (.aload_n 0, 1) := by decide +kernel
theorem dX6_init_5 : decode cX6_init 5 = .ok (.bipush 6, 2) := by decide +kernel
theorem dX6_init_7 : decode cX6_init 7 = .ok (.anewarray 9, 3) := by decide +kernel
theorem dX6_init_10 : decode cX6_init 10 = .ok (.putfield 11, 3) := by decide +kernel
theorem dX6_init_13 : decode cX6_init 13 = .ok (.aload_n 0, 1) := by decide +kernel
theorem dX6_init_14 : decode cX6_init 14 = .ok (.new 15, 3) := by decide +kernel
theorem dX6_init_17 : decode cX6_init 17 = .ok (.dup, 1) := by decide +kernel
theorem dX6_init_18 : decode cX6_init 18 = .ok (.invokespecial 17, 3) := by decide +kernel
theorem dX6_init_21 : decode cX6_init 21 = .ok (.putfield 18, 3) := by decide +kernel
theorem dX6_init_24 : decode cX6_init 24 = .ok (.aload_n 0, 1) := by decide +kernel
theorem dX6_init_25 : decode cX6_init 25 = .ok (.new 22, 3) := by decide +kernel
theorem dX6_init_28 : decode cX6_init 28 = .ok (.dup, 1) := by decide +kernel
theorem dX6_init_29 : decode cX6_init 29 = .ok (.invokespecial 24, 3) := by decide +kernel
theorem dX6_init_32 : decode cX6_init 32 = .ok (.putfield 25, 3) := by decide +kernel
theorem dX6_init_35 : decode cX6_init 35 = .ok (.aload_n 0, 1) := by decide +kernel
theorem dX6_init_36 : decode cX6_init 36 = .ok (.new 29, 3) := by decide +kernel
theorem dX6_init_39 : decode cX6_init 39 = .ok (.dup, 1) := by decide +kernel
theorem dX6_init_40 : decode cX6_init 40 = .ok (.invokespecial 31, 3) := by decide +kernel
theorem dX6_init_43 : decode cX6_init 43 = .ok (.putfield 32, 3) := by decide +kernel
theorem dX6_init_46 : decode cX6_init 46 = .ok (.aload_n 0, 1) := by decide +kernel
theorem dX6_init_47 : decode cX6_init 47 = .ok (.iconst 0, 1) := by decide +kernel
theorem dX6_init_48 : decode cX6_init 48 = .ok (.putfield 36, 3) := by decide +kernel
theorem dX6_init_51 : decode cX6_init 51 = .ok (.iconst 0, 1) := by decide +kernel
theorem dX6_init_52 : decode cX6_init 52 = .ok (.istore_n 1, 1) := by decide +kernel
theorem dX6_init_53 : decode cX6_init 53 = .ok (.iload_n 1, 1) := by decide +kernel
theorem dX6_init_54 : decode cX6_init 54 = .ok (.bipush 6, 2) := by decide +kernel
theorem dX6_init_56 : decode cX6_init 56 = .ok (.if_icmp .ge 22, 3) := by decide +kernel
theorem dX6_init_59 : decode cX6_init 59 = .ok (.aload_n 0, 1) := by decide +kernel
theorem dX6_init_60 : decode cX6_init 60 = .ok (.getfield 11, 3) := by decide +kernel
theorem dX6_init_63 : decode cX6_init 63 = .ok (.iload_n 1, 1) := by decide +kernel
theorem dX6_init_64 : decode cX6_init 64 = .ok (.new 9, 3) := by decide +kernel
theorem dX6_init_67 : decode cX6_init 67 = .ok (.dup, 1) := by decide +kernel
theorem dX6_init_68 : decode cX6_init 68 = .ok (.invokespecial 40, 3) := by decide +kernel
theorem dX6_init_71 : decode cX6_init 71 = .ok (.aastore, 1) := by decide +kernel
theorem dX6_init_72 : decode cX6_init 72 = .ok (.iinc 1 1, 3) := by decide +kernel
theorem dX6_init_75 : decode cX6_init 75 = .ok (.goto (-22), 3) := by decide +kernel
theorem dX6_init_78 : decode cX6_init 78 = .ok (.return_, 1) := by decide +kernel
set_option maxRecDepth 20000 in
theorem ggX6_size_X6_isSign : GoodIn wsX6_size wsX6_isSign := goodIn_r _ [5, 6, 7, 4, 8] (by decide +kernel) (by decide +kernel)
set_option maxRecDepth 20000 in
theorem gX6_size_X6_isSign : GoodIn wsX6_size (va_wsS RX6 41 yX6_isSign wsX6_isSign) := goodIn_app (goodIn_of _ (by decide +kernel)) ggX6_size_X6_isSign
set_option maxRecDepth 20000 in
theorem ggX6_size_X6_within : GoodIn wsX6_size wsX6_within := goodIn_r _ [8] (by decide +kernel) (by decide +kernel)
set_option maxRecDepth 20000 in
theorem gX6_size_X6_within : GoodIn wsX6_size (va_wsS RX6 45 yX6_within wsX6_within) := goodIn_app (goodIn_of _ (by decide +kernel)) ggX6_size_X6_within
set_option maxRecDepth 20000 in
theorem ggX6_size_X5_reset : GoodIn wsX6_size wsX5_reset := goodIn_r _ [13, 14, 15, 21, 22] (by decide +kernel) (by decide +kernel)
set_option maxRecDepth 20000 in
theorem gX6_size_X5_reset : GoodIn wsX6_size (wsV RX6 49 RX5 yX5_reset wsX5_reset) := goodIn_app (goodIn_of _ (by decide +kernel)) ggX6_size_X5_reset
theorem dX6_size_0 : decode cX6_size 0 = .ok (.iload_n 1, 1) := by decide +kernel
theorem dX6_size_1 : decode cX6_size 1 = .ok (.invokestatic 41, 3) := by decide +kernel
theorem dX6_size_4 : decode cX6_size 4 = .ok (.ifCond .ne 6, 3) := by decide +kernel
theorem dX6_size_7 : decode cX6_size 7 = .ok (.bipush (-101), 2) := by decide +kernel
theorem dX6_size_9 : decode cX6_size 9 = .ok (.ireturn, 1) := by decide +kernel
theorem dX6_size_10 : decode cX6_size 10 = .ok (.iload_n 2, 1) := by decide +kernel
theorem dX6_size_11 : decode cX6_size 11 = .ok (.iconst 1, 1) := by decide +kernel
theorem dX6_size_12 : decode cX6_size 12 = .ok (.bipush 16, 2) := by decide +kernel
theorem dX6_size_14 : decode cX6_size 14 = .ok (.invokestatic 45, 3) := by decide +kernel
theorem dX6_size_17 : decode cX6_size 17 = .ok (.ifCond .ne 6, 3) := by decide +kernel
theorem dX6_size_20 : decode cX6_size 20 = .ok (.bipush (-102), 2) := by decide +kernel
theorem dX6_size_22 : decode cX6_size 22 = .ok (.ireturn, 1) := by decide +kernel
theorem dX6_size_23 : decode cX6_size 23 = .ok (.aload_n 0, 1) := by decide +kernel
theorem dX6_size_24 : decode cX6_size 24 = .ok (.getfield 11, 3) := by decide +kernel
theorem dX6_size_27 : decode cX6_size 27 = .ok (.iload_n 1, 1) := by decide +kernel
theorem dX6_size_28 : decode cX6_size 28 = .ok (.aaload, 1) := by decide +kernel
theorem dX6_size_29 : decode cX6_size 29 = .ok (.iload_n 2, 1) := by decide +kernel
theorem dX6_size_30 : decode cX6_size 30 = .ok (.invokevirtual 49, 3) := by decide +kernel
theorem dX6_size_33 : decode cX6_size 33 = .ok (.iload_n 2, 1) := by decide +kernel
theorem dX6_size_34 : decode cX6_size 34 = .ok (.ireturn, 1) := by decide +kernel
set_option maxRecDepth 20000 in
theorem ggX6_turn_X6_isSign : GoodIn wsX6_turn wsX6_isSign := goodIn_r _ [6, 7, 8, 5, 9] (by decide +kernel) (by decide +kernel)
set_option maxRecDepth 20000 in
theorem gX6_turn_X6_isSign : GoodIn wsX6_turn (va_wsS RX6 41 yX6_isSign wsX6_isSign) := goodIn_app (goodIn_of _ (by decide +kernel)) ggX6_turn_X6_isSign
set_option maxRecDepth 20000 in
theorem ggX6_turn_X5_has : GoodIn wsX6_turn wsX5_has := goodIn_r _ [14, 15, 8, 5, 9, 21, 22] (by decide +kernel) (by decide +kernel)
set_option maxRecDepth 20000 in
theorem gX6_turn_X5_has : GoodIn wsX6_turn (wsV RX6 53 RX5 yX5_has wsX5_has) := goodIn_app (goodIn_of _ (by decide +kernel)) ggX6_turn_X5_has
set_option maxRecDepth 20000 in
theorem ggX6_turn_X6_within : GoodIn wsX6_turn wsX6_within := goodIn_r _ [9] (by decide +kernel) (by decide +kernel)
set_option maxRecDepth 20000 in
theorem gX6_turn_X6_within : GoodIn wsX6_turn (va_wsS RX6 45 yX6_within wsX6_within) := goodIn_app (goodIn_of _ (by decide +kernel)) ggX6_turn_X6_within
theorem dX6_turn_0 : decode cX6_turn 0 = .ok (.iload_n 1, 1) := by decide +kernel
theorem dX6_turn_1 : decode cX6_turn 1 = .ok (.invokestatic 41, 3) := by decide +kernel
theorem dX6_turn_4 : decode cX6_turn 4 = .ok (.ifCond .eq 16, 3) := by decide +kernel
theorem dX6_turn_7 : decode cX6_turn 7 = .ok (.aload_n 0, 1) := by decide +kernel
theorem dX6_turn_8 : decode cX6_turn 8 = .ok (.getfield 11, 3) := by decide +kernel
theorem dX6_turn_11 : decode cX6_turn 11 = .ok (.iload_n 1, 1) := by decide +kernel
theorem dX6_turn_12 : decode cX6_turn 12 = .ok (.aaload, 1) := by decide +kernel
theorem dX6_turn_13 : decode cX6_turn 13 = .ok (.iload_n 2, 1) := by decide +kernel
theorem dX6_turn_14 : decode cX6_turn 14 = .ok (.invokevirtual 53, 3) := by decide +kernel
theorem dX6_turn_17 : decode cX6_turn 17 = .ok (.ifCond .ne 6, 3) := by decide +kernel
theorem dX6_turn_20 : decode cX6_turn 20 = .ok (.bipush (-101), 2) := by decide +kernel
theorem dX6_turn_22 : decode cX6_turn 22 = .ok (.ireturn, 1) := by decide +kernel
theorem dX6_turn_23 : decode cX6_turn 23 = .ok (.iload_n 3, 1) := by decide +kernel
theorem dX6_turn_24 : decode cX6_turn 24 = .ok (.iconst 0, 1) := by decide +kernel
theorem dX6_turn_25 : decode cX6_turn 25 = .ok (.iconst 3, 1) := by decide +kernel
theorem dX6_turn_26 : decode cX6_turn 26 = .ok (.invokestatic 45, 3) := by decide +kernel
theorem dX6_turn_29 : decode cX6_turn 29 = .ok (.ifCond .ne 6, 3) := by decide +kernel
theorem dX6_turn_32 : decode cX6_turn 32 = .ok (.bipush (-102), 2) := by decide +kernel
theorem dX6_turn_34 : decode cX6_turn 34 = .ok (.ireturn, 1) := by decide +kernel
theorem dX6_turn_35 : decode cX6_turn 35 = .ok (.aload_n 0, 1) := by decide +kernel
theorem dX6_turn_36 : decode cX6_turn 36 = .ok (.getfield 11, 3) := by decide +kernel
theorem dX6_turn_39 : decode cX6_turn 39 = .ok (.iload_n 1, 1) := by decide +kernel
theorem dX6_turn_40 : decode cX6_turn 40 = .ok (.aaload, 1) := by decide +kernel
theorem dX6_turn_41 : decode cX6_turn 41 = .ok (.getfield 56, 3) := by decide +kernel
theorem dX6_turn_44 : decode cX6_turn 44 = .ok (.iload_n 2, 1) := by decide +kernel
theorem dX6_turn_45 : decode cX6_turn 45 = .ok (.iaload, 1) := by decide +kernel
theorem dX6_turn_46 : decode cX6_turn 46 = .ok (.istore 4, 2) := by decide +kernel
theorem dX6_turn_48 : decode cX6_turn 48 = .ok (.aload_n 0, 1) := by decide +kernel
theorem dX6_turn_49 : decode cX6_turn 49 = .ok (.getfield 11, 3) := by decide +kernel
theorem dX6_turn_52 : decode cX6_turn 52 = .ok (.iload_n 1, 1) := by decide +kernel
theorem dX6_turn_53 : decode cX6_turn 53 = .ok (.aaload, 1) := by decide +kernel
theorem dX6_turn_54 : decode cX6_turn 54 = .ok (.getfield 56, 3) := by decide +kernel
theorem dX6_turn_57 : decode cX6_turn 57 = .ok (.iload_n 2, 1) := by decide +kernel
theorem dX6_turn_58 : decode cX6_turn 58 = .ok (.iload_n 3, 1) := by decide +kernel
theorem dX6_turn_59 : decode cX6_turn 59 = .ok (.iastore, 1) := by decide +kernel
theorem dX6_turn_60 : decode cX6_turn 60 = .ok (.iload 4, 2) := by decide +kernel
theorem dX6_turn_62 : decode cX6_turn 62 = .ok (.ireturn, 1) := by decide +kernel
set_option maxRecDepth 20000 in
theorem ggX6_turned_X6_isSign : GoodIn wsX6_turned wsX6_isSign := goodIn_r _ [6, 7, 8, 5, 9] (by decide +kernel) (by decide +kernel)
set_option maxRecDepth 20000 in
theorem gX6_turned_X6_isSign : GoodIn wsX6_turned (va_wsS RX6 41 yX6_isSign wsX6_isSign) := goodIn_app (goodIn_of _ (by decide +kernel)) ggX6_turned_X6_isSign
set_option maxRecDepth 20000 in
theorem ggX6_turned_X5_has : GoodIn wsX6_turned wsX5_has := goodIn_r _ [14, 15, 8, 5, 9, 21, 22] (by decide +kernel) (by decide +kernel)
set_option maxRecDepth 20000 in
theorem gX6_turned_X5_has : GoodIn wsX6_turned (wsV RX6 53 RX5 yX5_has wsX5_has) := goodIn_app (goodIn_of _ (by decide +kernel)) ggX6_turned_X5_has
theorem dX6_turned_0 : decode cX6_turned 0 = .ok (.iload_n 1, 1) := by decide +kernel
theorem dX6_turned_1 : decode cX6_turned 1 = .ok (.invokestatic 41, 3) := by decide +kernel
theorem dX6_turned_4 : decode cX6_turned 4 = .ok (.ifCond .ne 6, 3) := by decide +kernel
theorem dX6_turned_7 : decode cX6_turned 7 = .ok (.bipush (-101), 2) := by decide +kernel
theorem dX6_turned_9 : decode cX6_turned 9 = .ok (.ireturn, 1) := by decide +kernel
theorem dX6_turned_10 : decode cX6_turned 10 = .ok (.aload_n 0, 1) := by decide +kernel
theorem dX6_turned_11 : decode cX6_turned 11 = .ok (.getfield 11, 3) := by decide +kernel
theorem dX6_turned_14 : decode cX6_turned 14 = .ok (.iload_n 1, 1) := by decide +kernel
theorem dX6_turned_15 : decode cX6_turned 15 = .ok (.aaload, 1) := by decide +kernel
theorem dX6_turned_16 : decode cX6_turned 16 = .ok (.iload_n 2, 1) := by decide +kernel
theorem dX6_turned_17 : decode cX6_turned 17 = .ok (.invokevirtual 53, 3) := by decide +kernel
theorem dX6_turned_20 : decode cX6_turned 20 = .ok (.ifCond .eq 17, 3) := by decide +kernel
theorem dX6_turned_23 : decode cX6_turned 23 = .ok (.aload_n 0, 1) := by decide +kernel
theorem dX6_turned_24 : decode cX6_turned 24 = .ok (.getfield 11, 3) := by decide +kernel
theorem dX6_turned_27 : decode cX6_turned 27 = .ok (.iload_n 1, 1) := by decide +kernel
theorem dX6_turned_28 : decode cX6_turned 28 = .ok (.aaload, 1) := by decide +kernel
theorem dX6_turned_29 : decode cX6_turned 29 = .ok (.getfield 56, 3) := by decide +kernel
theorem dX6_turned_32 : decode cX6_turned 32 = .ok (.iload_n 2, 1) := by decide +kernel
theorem dX6_turned_33 : decode cX6_turned 33 = .ok (.iaload, 1) := by decide +kernel
theorem dX6_turned_34 : decode cX6_turned 34 = .ok (.goto 4, 3) := by decide +kernel
theorem dX6_turned_37 : decode cX6_turned 37 = .ok (.iconst (-1), 1) := by decide +kernel
theorem dX6_turned_38 : decode cX6_turned 38 = .ok (.ireturn, 1) := by decide +kernel
set_option maxRecDepth 20000 in
theorem ggX6_made_X6_isSign : GoodIn wsX6_made wsX6_isSign := goodIn_r _ [6, 7, 8, 5, 9] (by decide +kernel) (by decide +kernel)
set_option maxRecDepth 20000 in
theorem gX6_made_X6_isSign : GoodIn wsX6_made (va_wsS RX6 41 yX6_isSign wsX6_isSign) := goodIn_app (goodIn_of _ (by decide +kernel)) ggX6_made_X6_isSign
set_option maxRecDepth 20000 in
theorem ggX6_made_X6_within : GoodIn wsX6_made wsX6_within := goodIn_r _ [9] (by decide +kernel) (by decide +kernel)
set_option maxRecDepth 20000 in
theorem gX6_made_X6_within : GoodIn wsX6_made (va_wsS RX6 45 yX6_within wsX6_within) := goodIn_app (goodIn_of _ (by decide +kernel)) ggX6_made_X6_within
set_option maxRecDepth 20000 in
theorem ggX6_made_X5_copy : GoodIn wsX6_made wsX5_copy := goodIn_r _ [14, 15, 16, 34, 35] (by decide +kernel) (by decide +kernel)
set_option maxRecDepth 20000 in
theorem gX6_made_X5_copy : GoodIn wsX6_made (wsV RX6 60 RX5 yX5_copy wsX5_copy) := goodIn_app (goodIn_of _ (by decide +kernel)) ggX6_made_X5_copy
set_option maxRecDepth 20000 in
theorem ggX6_made_X5_reverse : GoodIn wsX6_made wsX5_reverse := goodIn_r _ [20, 15, 16, 34, 35] (by decide +kernel) (by decide +kernel)
set_option maxRecDepth 20000 in
theorem gX6_made_X5_reverse : GoodIn wsX6_made (wsV RX6 64 RX5 yX5_reverse wsX5_reverse) := goodIn_app (goodIn_of _ (by decide +kernel)) ggX6_made_X5_reverse
set_option maxRecDepth 20000 in
theorem ggX6_made_X5_mirror : GoodIn wsX6_made wsX5_mirror := goodIn_r _ [24, 15, 16, 34, 35] (by decide +kernel) (by decide +kernel)
set_option maxRecDepth 20000 in
theorem gX6_made_X5_mirror : GoodIn wsX6_made (wsV RX6 67 RX5 yX5_mirror wsX5_mirror) := goodIn_app (goodIn_of _ (by decide +kernel)) ggX6_made_X5_mirror
set_option maxRecDepth 20000 in
theorem ggX6_made_X5_advance : GoodIn wsX6_made wsX5_advance := goodIn_r _ [28, 15, 16, 34, 35] (by decide +kernel) (by decide +kernel)
set_option maxRecDepth 20000 in
theorem gX6_made_X5_advance : GoodIn wsX6_made (wsV RX6 70 RX5 yX5_advance wsX5_advance) := goodIn_app (goodIn_of _ (by decide +kernel)) ggX6_made_X5_advance
theorem dX6_made_0 : decode cX6_made 0 = .ok (.iload_n 2, 1) := by decide +kernel
theorem dX6_made_1 : decode cX6_made 1 = .ok (.invokestatic 41, 3) := by decide +kernel
theorem dX6_made_4 : decode cX6_made 4 = .ok (.ifCond .eq 10, 3) := by decide +kernel
theorem dX6_made_7 : decode cX6_made 7 = .ok (.iload_n 1, 1) := by decide +kernel
theorem dX6_made_8 : decode cX6_made 8 = .ok (.invokestatic 41, 3) := by decide +kernel
theorem dX6_made_11 : decode cX6_made 11 = .ok (.ifCond .ne 6, 3) := by decide +kernel
theorem dX6_made_14 : decode cX6_made 14 = .ok (.bipush (-101), 2) := by decide +kernel
theorem dX6_made_16 : decode cX6_made 16 = .ok (.ireturn, 1) := by decide +kernel
theorem dX6_made_17 : decode cX6_made 17 = .ok (.iload_n 3, 1) := by decide +kernel
theorem dX6_made_18 : decode cX6_made 18 = .ok (.iconst 0, 1) := by decide +kernel
theorem dX6_made_19 : decode cX6_made 19 = .ok (.iconst 2, 1) := by decide +kernel
theorem dX6_made_20 : decode cX6_made 20 = .ok (.invokestatic 45, 3) := by decide +kernel
theorem dX6_made_23 : decode cX6_made 23 = .ok (.ifCond .ne 6, 3) := by decide +kernel
theorem dX6_made_26 : decode cX6_made 26 = .ok (.bipush (-102), 2) := by decide +kernel
theorem dX6_made_28 : decode cX6_made 28 = .ok (.ireturn, 1) := by decide +kernel
theorem dX6_made_29 : decode cX6_made 29 = .ok (.aload_n 0, 1) := by decide +kernel
theorem dX6_made_30 : decode cX6_made 30 = .ok (.getfield 11, 3) := by decide +kernel
theorem dX6_made_33 : decode cX6_made 33 = .ok (.iload_n 1, 1) := by decide +kernel
theorem dX6_made_34 : decode cX6_made 34 = .ok (.aaload, 1) := by decide +kernel
theorem dX6_made_35 : decode cX6_made 35 = .ok (.astore 4, 2) := by decide +kernel
theorem dX6_made_37 : decode cX6_made 37 = .ok (.aload 4, 2) := by decide +kernel
theorem dX6_made_39 : decode cX6_made 39 = .ok (.aload_n 0, 1) := by decide +kernel
theorem dX6_made_40 : decode cX6_made 40 = .ok (.getfield 11, 3) := by decide +kernel
theorem dX6_made_43 : decode cX6_made 43 = .ok (.iload_n 2, 1) := by decide +kernel
theorem dX6_made_44 : decode cX6_made 44 = .ok (.aaload, 1) := by decide +kernel
theorem dX6_made_45 : decode cX6_made 45 = .ok (.invokevirtual 60, 3) := by decide +kernel
theorem dX6_made_48 : decode cX6_made 48 = .ok (.iload_n 3, 1) := by decide +kernel
theorem dX6_made_49 : decode cX6_made 49 = .ok (.ifCond .ne 11, 3) := by decide +kernel
theorem dX6_made_52 : decode cX6_made 52 = .ok (.aload 4, 2) := by decide +kernel
theorem dX6_made_54 : decode cX6_made 54 = .ok (.invokevirtual 64, 3) := by decide +kernel
theorem dX6_made_57 : decode cX6_made 57 = .ok (.goto 21, 3) := by decide +kernel
theorem dX6_made_60 : decode cX6_made 60 = .ok (.iload_n 3, 1) := by decide +kernel
theorem dX6_made_61 : decode cX6_made 61 = .ok (.iconst 1, 1) := by decide +kernel
theorem dX6_made_62 : decode cX6_made 62 = .ok (.if_icmp .ne 11, 3) := by decide +kernel
theorem dX6_made_65 : decode cX6_made 65 = .ok (.aload 4, 2) := by decide +kernel
theorem dX6_made_67 : decode cX6_made 67 = .ok (.invokevirtual 67, 3) := by decide +kernel
theorem dX6_made_70 : decode cX6_made 70 = .ok (.goto 8, 3) := by decide +kernel
theorem dX6_made_73 : decode cX6_made 73 = .ok (.aload 4, 2) := by decide +kernel
theorem dX6_made_75 : decode cX6_made 75 = .ok (.invokevirtual 70, 3) := by decide +kernel
theorem dX6_made_78 : decode cX6_made 78 = .ok (.aload 4, 2) := by decide +kernel
theorem dX6_made_80 : decode cX6_made 80 = .ok (.getfield 73, 3) := by decide +kernel
theorem dX6_made_83 : decode cX6_made 83 = .ok (.ireturn, 1) := by decide +kernel
set_option maxRecDepth 20000 in
theorem ggX6_look_X6_isSign : GoodIn wsX6_look wsX6_isSign := goodIn_r _ [5, 6, 7, 4, 8] (by decide +kernel) (by decide +kernel)
set_option maxRecDepth 20000 in
theorem gX6_look_X6_isSign : GoodIn wsX6_look (va_wsS RX6 41 yX6_isSign wsX6_isSign) := goodIn_app (goodIn_of _ (by decide +kernel)) ggX6_look_X6_isSign
set_option maxRecDepth 20000 in
theorem ggX6_look_X6_within : GoodIn wsX6_look wsX6_within := goodIn_r _ [8] (by decide +kernel) (by decide +kernel)
set_option maxRecDepth 20000 in
theorem gX6_look_X6_within : GoodIn wsX6_look (va_wsS RX6 45 yX6_within wsX6_within) := goodIn_app (goodIn_of _ (by decide +kernel)) ggX6_look_X6_within
set_option maxRecDepth 20000 in
theorem ggX6_look_X6_isPart : GoodIn wsX6_look wsX6_isPart := goodIn_r _ [11, 6, 7, 4, 8] (by decide +kernel) (by decide +kernel)
set_option maxRecDepth 20000 in
theorem gX6_look_X6_isPart : GoodIn wsX6_look (va_wsS RX6 76 yX6_isPart wsX6_isPart) := goodIn_app (goodIn_of _ (by decide +kernel)) ggX6_look_X6_isPart
set_option maxRecDepth 20000 in
theorem ggX6_look_X5_lookPart : GoodIn wsX6_look wsX5_lookPart := goodIn_r _ [16, 17, 18, 19, 20, 21, 15, 22, 7, 4, 8, 23, 24, 30, 31] (by decide +kernel) (by decide +kernel)
set_option maxRecDepth 20000 in
theorem gX6_look_X5_lookPart : GoodIn wsX6_look (wsV RX6 79 RX5 yX5_lookPart wsX5_lookPart) := goodIn_app (goodIn_of _ (by decide +kernel)) ggX6_look_X5_lookPart
theorem dX6_look_0 : decode cX6_look 0 = .ok (.iload_n 1, 1) := by decide +kernel
theorem dX6_look_1 : decode cX6_look 1 = .ok (.invokestatic 41, 3) := by decide +kernel
theorem dX6_look_4 : decode cX6_look 4 = .ok (.ifCond .eq 10, 3) := by decide +kernel
theorem dX6_look_7 : decode cX6_look 7 = .ok (.iload_n 2, 1) := by decide +kernel
theorem dX6_look_8 : decode cX6_look 8 = .ok (.invokestatic 41, 3) := by decide +kernel
theorem dX6_look_11 : decode cX6_look 11 = .ok (.ifCond .ne 7, 3) := by decide +kernel
theorem dX6_look_14 : decode cX6_look 14 = .ok (.sipush (-1000), 3) := by decide +kernel
theorem dX6_look_17 : decode cX6_look 17 = .ok (.ireturn, 1) := by decide +kernel
theorem dX6_look_18 : decode cX6_look 18 = .ok (.iload_n 3, 1) := by decide +kernel
theorem dX6_look_19 : decode cX6_look 19 = .ok (.bipush (-15), 2) := by decide +kernel
theorem dX6_look_21 : decode cX6_look 21 = .ok (.bipush 15, 2) := by decide +kernel
theorem dX6_look_23 : decode cX6_look 23 = .ok (.invokestatic 45, 3) := by decide +kernel
theorem dX6_look_26 : decode cX6_look 26 = .ok (.ifCond .eq 21, 3) := by decide +kernel
theorem dX6_look_29 : decode cX6_look 29 = .ok (.iload 4, 2) := by decide +kernel
theorem dX6_look_31 : decode cX6_look 31 = .ok (.iconst 0, 1) := by decide +kernel
theorem dX6_look_32 : decode cX6_look 32 = .ok (.iconst 3, 1) := by decide +kernel
theorem dX6_look_33 : decode cX6_look 33 = .ok (.invokestatic 45, 3) := by decide +kernel
theorem dX6_look_36 : decode cX6_look 36 = .ok (.ifCond .eq 11, 3) := by decide +kernel
theorem dX6_look_39 : decode cX6_look 39 = .ok (.iload 5, 2) := by decide +kernel
theorem dX6_look_41 : decode cX6_look 41 = .ok (.invokestatic 76, 3) := by decide +kernel
theorem dX6_look_44 : decode cX6_look 44 = .ok (.ifCond .ne 7, 3) := by decide +kernel
theorem dX6_look_47 : decode cX6_look 47 = .ok (.sipush (-1001), 3) := by decide +kernel
theorem dX6_look_50 : decode cX6_look 50 = .ok (.ireturn, 1) := by decide +kernel
theorem dX6_look_51 : decode cX6_look 51 = .ok (.aload_n 0, 1) := by decide +kernel
theorem dX6_look_52 : decode cX6_look 52 = .ok (.getfield 11, 3) := by decide +kernel
theorem dX6_look_55 : decode cX6_look 55 = .ok (.iload_n 1, 1) := by decide +kernel
theorem dX6_look_56 : decode cX6_look 56 = .ok (.aaload, 1) := by decide +kernel
theorem dX6_look_57 : decode cX6_look 57 = .ok (.aload_n 0, 1) := by decide +kernel
theorem dX6_look_58 : decode cX6_look 58 = .ok (.getfield 11, 3) := by decide +kernel
theorem dX6_look_61 : decode cX6_look 61 = .ok (.iload_n 2, 1) := by decide +kernel
theorem dX6_look_62 : decode cX6_look 62 = .ok (.aaload, 1) := by decide +kernel
theorem dX6_look_63 : decode cX6_look 63 = .ok (.iload_n 3, 1) := by decide +kernel
theorem dX6_look_64 : decode cX6_look 64 = .ok (.iload 4, 2) := by decide +kernel
theorem dX6_look_66 : decode cX6_look 66 = .ok (.iload 5, 2) := by decide +kernel
theorem dX6_look_68 : decode cX6_look 68 = .ok (.invokevirtual 79, 3) := by decide +kernel
theorem dX6_look_71 : decode cX6_look 71 = .ok (.ireturn, 1) := by decide +kernel
set_option maxRecDepth 20000 in
theorem ggX6_peak_X6_isSign : GoodIn wsX6_peak wsX6_isSign := goodIn_r _ [5, 6, 7, 4, 8] (by decide +kernel) (by decide +kernel)
set_option maxRecDepth 20000 in
theorem gX6_peak_X6_isSign : GoodIn wsX6_peak (va_wsS RX6 41 yX6_isSign wsX6_isSign) := goodIn_app (goodIn_of _ (by decide +kernel)) ggX6_peak_X6_isSign
set_option maxRecDepth 20000 in
theorem ggX6_peak_X5_greatestSide : GoodIn wsX6_peak wsX5_greatestSide := goodIn_r _ [13, 14, 15, 16, 17, 18, 19, 20, 21, 12, 22, 23, 24, 25, 26, 27, 28, 29, 30, 31, 7, 4, 8, 32, 33, 39, 40] (by decide +kernel) (by decide +kernel)
set_option maxRecDepth 20000 in
theorem gX6_peak_X5_greatestSide : GoodIn wsX6_peak (wsV RX6 83 RX5 yX5_greatestSide wsX5_greatestSide) := goodIn_app (goodIn_of _ (by decide +kernel)) ggX6_peak_X5_greatestSide
theorem dX6_peak_0 : decode cX6_peak 0 = .ok (.iload_n 1, 1) := by decide +kernel
theorem dX6_peak_1 : decode cX6_peak 1 = .ok (.invokestatic 41, 3) := by decide +kernel
theorem dX6_peak_4 : decode cX6_peak 4 = .ok (.ifCond .eq 15, 3) := by decide +kernel
theorem dX6_peak_7 : decode cX6_peak 7 = .ok (.aload_n 0, 1) := by decide +kernel
theorem dX6_peak_8 : decode cX6_peak 8 = .ok (.getfield 11, 3) := by decide +kernel
theorem dX6_peak_11 : decode cX6_peak 11 = .ok (.iload_n 1, 1) := by decide +kernel
theorem dX6_peak_12 : decode cX6_peak 12 = .ok (.aaload, 1) := by decide +kernel
theorem dX6_peak_13 : decode cX6_peak 13 = .ok (.invokevirtual 83, 3) := by decide +kernel
theorem dX6_peak_16 : decode cX6_peak 16 = .ok (.goto 5, 3) := by decide +kernel
theorem dX6_peak_19 : decode cX6_peak 19 = .ok (.bipush (-101), 2) := by decide +kernel
theorem dX6_peak_21 : decode cX6_peak 21 = .ok (.ireturn, 1) := by decide +kernel
set_option maxRecDepth 20000 in
theorem ggX6_flank_X6_isSign : GoodIn wsX6_flank wsX6_isSign := goodIn_r _ [5, 6, 7, 4, 8] (by decide +kernel) (by decide +kernel)
set_option maxRecDepth 20000 in
theorem gX6_flank_X6_isSign : GoodIn wsX6_flank (va_wsS RX6 41 yX6_isSign wsX6_isSign) := goodIn_app (goodIn_of _ (by decide +kernel)) ggX6_flank_X6_isSign
set_option maxRecDepth 20000 in
theorem ggX6_flank_X5_sumOfSides : GoodIn wsX6_flank wsX5_sumOfSides := goodIn_r _ [13, 14, 15, 16, 17, 12, 18, 19, 20, 21, 22, 23, 24, 25, 26, 27, 7, 4, 8, 28, 29, 35, 36] (by decide +kernel) (by decide +kernel)
set_option maxRecDepth 20000 in
theorem gX6_flank_X5_sumOfSides : GoodIn wsX6_flank (wsV RX6 87 RX5 yX5_sumOfSides wsX5_sumOfSides) := goodIn_app (goodIn_of _ (by decide +kernel)) ggX6_flank_X5_sumOfSides
theorem dX6_flank_0 : decode cX6_flank 0 = .ok (.iload_n 1, 1) := by decide +kernel
theorem dX6_flank_1 : decode cX6_flank 1 = .ok (.invokestatic 41, 3) := by decide +kernel
theorem dX6_flank_4 : decode cX6_flank 4 = .ok (.ifCond .eq 15, 3) := by decide +kernel
theorem dX6_flank_7 : decode cX6_flank 7 = .ok (.aload_n 0, 1) := by decide +kernel
theorem dX6_flank_8 : decode cX6_flank 8 = .ok (.getfield 11, 3) := by decide +kernel
theorem dX6_flank_11 : decode cX6_flank 11 = .ok (.iload_n 1, 1) := by decide +kernel
theorem dX6_flank_12 : decode cX6_flank 12 = .ok (.aaload, 1) := by decide +kernel
theorem dX6_flank_13 : decode cX6_flank 13 = .ok (.invokevirtual 87, 3) := by decide +kernel
theorem dX6_flank_16 : decode cX6_flank 16 = .ok (.goto 5, 3) := by decide +kernel
theorem dX6_flank_19 : decode cX6_flank 19 = .ok (.bipush (-101), 2) := by decide +kernel
theorem dX6_flank_21 : decode cX6_flank 21 = .ok (.ireturn, 1) := by decide +kernel
set_option maxRecDepth 20000 in
theorem ggX6_worst_X6_isSign : GoodIn wsX6_worst wsX6_isSign := goodIn_r _ [5, 6, 7, 4, 8] (by decide +kernel) (by decide +kernel)
set_option maxRecDepth 20000 in
theorem gX6_worst_X6_isSign : GoodIn wsX6_worst (va_wsS RX6 41 yX6_isSign wsX6_isSign) := goodIn_app (goodIn_of _ (by decide +kernel)) ggX6_worst_X6_isSign
set_option maxRecDepth 20000 in
theorem ggX6_worst_X5_greatestOwnLook : GoodIn wsX6_worst wsX5_greatestOwnLook := goodIn_r _ [13, 14, 15, 16, 17, 18, 19, 20, 12, 21, 22, 23, 24, 25, 26, 27, 28, 29, 30, 31, 7, 4, 8, 32, 33, 39, 40] (by decide +kernel) (by decide +kernel)
set_option maxRecDepth 20000 in
theorem gX6_worst_X5_greatestOwnLook : GoodIn wsX6_worst (wsV RX6 90 RX5 yX5_greatestOwnLook wsX5_greatestOwnLook) := goodIn_app (goodIn_of _ (by decide +kernel)) ggX6_worst_X5_greatestOwnLook
theorem dX6_worst_0 : decode cX6_worst 0 = .ok (.iload_n 1, 1) := by decide +kernel
theorem dX6_worst_1 : decode cX6_worst 1 = .ok (.invokestatic 41, 3) := by decide +kernel
theorem dX6_worst_4 : decode cX6_worst 4 = .ok (.ifCond .eq 15, 3) := by decide +kernel
theorem dX6_worst_7 : decode cX6_worst 7 = .ok (.aload_n 0, 1) := by decide +kernel
theorem dX6_worst_8 : decode cX6_worst 8 = .ok (.getfield 11, 3) := by decide +kernel
theorem dX6_worst_11 : decode cX6_worst 11 = .ok (.iload_n 1, 1) := by decide +kernel
theorem dX6_worst_12 : decode cX6_worst 12 = .ok (.aaload, 1) := by decide +kernel
theorem dX6_worst_13 : decode cX6_worst 13 = .ok (.invokevirtual 90, 3) := by decide +kernel
theorem dX6_worst_16 : decode cX6_worst 16 = .ok (.goto 5, 3) := by decide +kernel
theorem dX6_worst_19 : decode cX6_worst 19 = .ok (.bipush (-101), 2) := by decide +kernel
theorem dX6_worst_21 : decode cX6_worst 21 = .ok (.ireturn, 1) := by decide +kernel
set_option maxRecDepth 20000 in
theorem ggX6_best_X6_isSign : GoodIn wsX6_best wsX6_isSign := goodIn_r _ [6, 7, 8, 5, 9] (by decide +kernel) (by decide +kernel)
set_option maxRecDepth 20000 in
theorem gX6_best_X6_isSign : GoodIn wsX6_best (va_wsS RX6 41 yX6_isSign wsX6_isSign) := goodIn_app (goodIn_of _ (by decide +kernel)) ggX6_best_X6_isSign
set_option maxRecDepth 20000 in
theorem ggX6_best_X6_within : GoodIn wsX6_best wsX6_within := goodIn_r _ [9] (by decide +kernel) (by decide +kernel)
set_option maxRecDepth 20000 in
theorem gX6_best_X6_within : GoodIn wsX6_best (va_wsS RX6 45 yX6_within wsX6_within) := goodIn_app (goodIn_of _ (by decide +kernel)) ggX6_best_X6_within
set_option maxRecDepth 20000 in
theorem ggX6_best_X4_leastSided : GoodIn wsX6_best wsX4_leastSided := goodIn_r _ [13, 14, 15, 12, 16, 17, 18, 19, 20, 21, 22, 23, 24, 25, 26, 27, 28, 29, 30, 31, 32, 33] (by decide +kernel) (by decide +kernel)
set_option maxRecDepth 20000 in
theorem gX6_best_X4_leastSided : GoodIn wsX6_best (va_wsS RX6 93 yX4_leastSided wsX4_leastSided) := goodIn_app (goodIn_of _ (by decide +kernel)) ggX6_best_X4_leastSided
set_option maxRecDepth 20000 in
theorem ggX6_best_X5_takeBits : GoodIn wsX6_best wsX5_takeBits := goodIn_r _ [38, 39, 40, 65, 66] (by decide +kernel) (by decide +kernel)
set_option maxRecDepth 20000 in
theorem gX6_best_X5_takeBits : GoodIn wsX6_best (wsV RX6 99 RX5 yX5_takeBits wsX5_takeBits) := goodIn_app (goodIn_of _ (by decide +kernel)) ggX6_best_X5_takeBits
set_option maxRecDepth 20000 in
theorem ggX6_best_X5_greatestSide : GoodIn wsX6_best wsX5_greatestSide := goodIn_r _ [44, 39, 45, 18, 19, 20, 46, 47, 48, 37, 49, 50, 51, 52, 53, 40, 54, 55, 56, 57, 8, 5, 9, 58, 59, 65, 66] (by decide +kernel) (by decide +kernel)
set_option maxRecDepth 20000 in
theorem gX6_best_X5_greatestSide : GoodIn wsX6_best (wsV RX6 83 RX5 yX5_greatestSide wsX5_greatestSide) := goodIn_app (goodIn_of _ (by decide +kernel)) ggX6_best_X5_greatestSide
theorem dX6_best_0 : decode cX6_best 0 = .ok (.iload_n 1, 1) := by decide +kernel
theorem dX6_best_1 : decode cX6_best 1 = .ok (.invokestatic 41, 3) := by decide +kernel
theorem dX6_best_4 : decode cX6_best 4 = .ok (.ifCond .ne 6, 3) := by decide +kernel
theorem dX6_best_7 : decode cX6_best 7 = .ok (.bipush (-101), 2) := by decide +kernel
theorem dX6_best_9 : decode cX6_best 9 = .ok (.ireturn, 1) := by decide +kernel
theorem dX6_best_10 : decode cX6_best 10 = .ok (.iload_n 2, 1) := by decide +kernel
theorem dX6_best_11 : decode cX6_best 11 = .ok (.iconst 1, 1) := by decide +kernel
theorem dX6_best_12 : decode cX6_best 12 = .ok (.bipush 12, 2) := by decide +kernel
theorem dX6_best_14 : decode cX6_best 14 = .ok (.invokestatic 45, 3) := by decide +kernel
theorem dX6_best_17 : decode cX6_best 17 = .ok (.ifCond .ne 6, 3) := by decide +kernel
theorem dX6_best_20 : decode cX6_best 20 = .ok (.bipush (-102), 2) := by decide +kernel
theorem dX6_best_22 : decode cX6_best 22 = .ok (.ireturn, 1) := by decide +kernel
theorem dX6_best_23 : decode cX6_best 23 = .ok (.aload_n 0, 1) := by decide +kernel
theorem dX6_best_24 : decode cX6_best 24 = .ok (.getfield 36, 3) := by decide +kernel
theorem dX6_best_27 : decode cX6_best 27 = .ok (.bipush 30, 2) := by decide +kernel
theorem dX6_best_29 : decode cX6_best 29 = .ok (.if_icmp .lt 6, 3) := by decide +kernel
theorem dX6_best_32 : decode cX6_best 32 = .ok (.bipush (-104), 2) := by decide +kernel
theorem dX6_best_34 : decode cX6_best 34 = .ok (.ireturn, 1) := by decide +kernel
theorem dX6_best_35 : decode cX6_best 35 = .ok (.aload_n 0, 1) := by decide +kernel
theorem dX6_best_36 : decode cX6_best 36 = .ok (.dup, 1) := by decide +kernel
theorem dX6_best_37 : decode cX6_best 37 = .ok (.getfield 36, 3) := by decide +kernel
theorem dX6_best_40 : decode cX6_best 40 = .ok (.iconst 1, 1) := by decide +kernel
theorem dX6_best_41 : decode cX6_best 41 = .ok (.iadd, 1) := by decide +kernel
theorem dX6_best_42 : decode cX6_best 42 = .ok (.putfield 36, 3) := by decide +kernel
theorem dX6_best_45 : decode cX6_best 45 = .ok (.aload_n 0, 1) := by decide +kernel
theorem dX6_best_46 : decode cX6_best 46 = .ok (.getfield 11, 3) := by decide +kernel
theorem dX6_best_49 : decode cX6_best 49 = .ok (.iload_n 1, 1) := by decide +kernel
theorem dX6_best_50 : decode cX6_best 50 = .ok (.aaload, 1) := by decide +kernel
theorem dX6_best_51 : decode cX6_best 51 = .ok (.iload_n 2, 1) := by decide +kernel
theorem dX6_best_52 : decode cX6_best 52 = .ok (.invokestatic 93, 3) := by decide +kernel
theorem dX6_best_55 : decode cX6_best 55 = .ok (.iload_n 2, 1) := by decide +kernel
theorem dX6_best_56 : decode cX6_best 56 = .ok (.invokevirtual 99, 3) := by decide +kernel
theorem dX6_best_59 : decode cX6_best 59 = .ok (.aload_n 0, 1) := by decide +kernel
theorem dX6_best_60 : decode cX6_best 60 = .ok (.getfield 11, 3) := by decide +kernel
theorem dX6_best_63 : decode cX6_best 63 = .ok (.iload_n 1, 1) := by decide +kernel
theorem dX6_best_64 : decode cX6_best 64 = .ok (.aaload, 1) := by decide +kernel
theorem dX6_best_65 : decode cX6_best 65 = .ok (.invokevirtual 83, 3) := by decide +kernel
theorem dX6_best_68 : decode cX6_best 68 = .ok (.ireturn, 1) := by decide +kernel
set_option maxRecDepth 20000 in
theorem ggX6_pair_X6_isSign : GoodIn wsX6_pair wsX6_isSign := goodIn_r _ [5, 6, 7, 4, 8] (by decide +kernel) (by decide +kernel)
set_option maxRecDepth 20000 in
theorem gX6_pair_X6_isSign : GoodIn wsX6_pair (va_wsS RX6 41 yX6_isSign wsX6_isSign) := goodIn_app (goodIn_of _ (by decide +kernel)) ggX6_pair_X6_isSign
set_option maxRecDepth 20000 in
theorem ggX6_pair_X5_sidesGoOutWith : GoodIn wsX6_pair wsX5_sidesGoOutWith := goodIn_r _ [13, 14, 15, 16, 17, 12, 18, 19, 20, 21, 22, 23, 7, 4, 8, 24, 25, 31, 32] (by decide +kernel) (by decide +kernel)
set_option maxRecDepth 20000 in
theorem gX6_pair_X5_sidesGoOutWith : GoodIn wsX6_pair (wsV RX6 103 RX5 yX5_sidesGoOutWith wsX5_sidesGoOutWith) := goodIn_app (goodIn_of _ (by decide +kernel)) ggX6_pair_X5_sidesGoOutWith
theorem dX6_pair_0 : decode cX6_pair 0 = .ok (.iload_n 1, 1) := by decide +kernel
theorem dX6_pair_1 : decode cX6_pair 1 = .ok (.invokestatic 41, 3) := by decide +kernel
theorem dX6_pair_4 : decode cX6_pair 4 = .ok (.ifCond .eq 10, 3) := by decide +kernel
theorem dX6_pair_7 : decode cX6_pair 7 = .ok (.iload_n 2, 1) := by decide +kernel
theorem dX6_pair_8 : decode cX6_pair 8 = .ok (.invokestatic 41, 3) := by decide +kernel
theorem dX6_pair_11 : decode cX6_pair 11 = .ok (.ifCond .ne 6, 3) := by decide +kernel
theorem dX6_pair_14 : decode cX6_pair 14 = .ok (.bipush (-101), 2) := by decide +kernel
theorem dX6_pair_16 : decode cX6_pair 16 = .ok (.ireturn, 1) := by decide +kernel
theorem dX6_pair_17 : decode cX6_pair 17 = .ok (.aload_n 0, 1) := by decide +kernel
theorem dX6_pair_18 : decode cX6_pair 18 = .ok (.getfield 11, 3) := by decide +kernel
theorem dX6_pair_21 : decode cX6_pair 21 = .ok (.iload_n 1, 1) := by decide +kernel
theorem dX6_pair_22 : decode cX6_pair 22 = .ok (.aaload, 1) := by decide +kernel
theorem dX6_pair_23 : decode cX6_pair 23 = .ok (.aload_n 0, 1) := by decide +kernel
theorem dX6_pair_24 : decode cX6_pair 24 = .ok (.getfield 11, 3) := by decide +kernel
theorem dX6_pair_27 : decode cX6_pair 27 = .ok (.iload_n 2, 1) := by decide +kernel
theorem dX6_pair_28 : decode cX6_pair 28 = .ok (.aaload, 1) := by decide +kernel
theorem dX6_pair_29 : decode cX6_pair 29 = .ok (.invokevirtual 103, 3) := by decide +kernel
theorem dX6_pair_32 : decode cX6_pair 32 = .ok (.ifCond .eq 7, 3) := by decide +kernel
theorem dX6_pair_35 : decode cX6_pair 35 = .ok (.iconst 1, 1) := by decide +kernel
theorem dX6_pair_36 : decode cX6_pair 36 = .ok (.goto 4, 3) := by decide +kernel
theorem dX6_pair_39 : decode cX6_pair 39 = .ok (.iconst 0, 1) := by decide +kernel
theorem dX6_pair_40 : decode cX6_pair 40 = .ok (.ireturn, 1) := by decide +kernel
set_option maxRecDepth 20000 in
theorem ggX6_filter_X6_within : GoodIn wsX6_filter wsX6_within := goodIn_r _ [5] (by decide +kernel) (by decide +kernel)
set_option maxRecDepth 20000 in
theorem gX6_filter_X6_within : GoodIn wsX6_filter (va_wsS RX6 45 yX6_within wsX6_within) := goodIn_app (goodIn_of _ (by decide +kernel)) ggX6_filter_X6_within
set_option maxRecDepth 20000 in
theorem ggX6_filter_X1_reset : GoodIn wsX6_filter wsX1_reset := goodIn_r _ [10, 11, 12, 18, 19] (by decide +kernel) (by decide +kernel)
set_option maxRecDepth 20000 in
theorem gX6_filter_X1_reset : GoodIn wsX6_filter (wsV RX6 107 RX1 yX1_reset wsX1_reset) := goodIn_app (goodIn_of _ (by decide +kernel)) ggX6_filter_X1_reset
theorem dX6_filter_0 : decode cX6_filter 0 = .ok (.iload_n 1, 1) := by decide +kernel
theorem dX6_filter_1 : decode cX6_filter 1 = .ok (.iconst 1, 1) := by decide +kernel
theorem dX6_filter_2 : decode cX6_filter 2 = .ok (.bipush 24, 2) := by decide +kernel
theorem dX6_filter_4 : decode cX6_filter 4 = .ok (.invokestatic 45, 3) := by decide +kernel
theorem dX6_filter_7 : decode cX6_filter 7 = .ok (.ifCond .ne 6, 3) := by decide +kernel
theorem dX6_filter_10 : decode cX6_filter 10 = .ok (.bipush (-102), 2) := by decide +kernel
theorem dX6_filter_12 : decode cX6_filter 12 = .ok (.ireturn, 1) := by decide +kernel
theorem dX6_filter_13 : decode cX6_filter 13 = .ok (.aload_n 0, 1) := by decide +kernel
theorem dX6_filter_14 : decode cX6_filter 14 = .ok (.getfield 18, 3) := by decide +kernel
theorem dX6_filter_17 : decode cX6_filter 17 = .ok (.iload_n 1, 1) := by decide +kernel
theorem dX6_filter_18 : decode cX6_filter 18 = .ok (.invokevirtual 107, 3) := by decide +kernel
theorem dX6_filter_21 : decode cX6_filter 21 = .ok (.iload_n 1, 1) := by decide +kernel
theorem dX6_filter_22 : decode cX6_filter 22 = .ok (.ireturn, 1) := by decide +kernel
set_option maxRecDepth 20000 in
theorem ggX6_weight_X6_within : GoodIn wsX6_weight wsX6_within := goodIn_r _ [7] (by decide +kernel) (by decide +kernel)
set_option maxRecDepth 20000 in
theorem gX6_weight_X6_within : GoodIn wsX6_weight (va_wsS RX6 45 yX6_within wsX6_within) := goodIn_app (goodIn_of _ (by decide +kernel)) ggX6_weight_X6_within
theorem dX6_weight_0 : decode cX6_weight 0 = .ok (.iload_n 1, 1) := by decide +kernel
theorem dX6_weight_1 : decode cX6_weight 1 = .ok (.iconst 0, 1) := by decide +kernel
theorem dX6_weight_2 : decode cX6_weight 2 = .ok (.aload_n 0, 1) := by decide +kernel
theorem dX6_weight_3 : decode cX6_weight 3 = .ok (.getfield 18, 3) := by decide +kernel
theorem dX6_weight_6 : decode cX6_weight 6 = .ok (.getfield 108, 3) := by decide +kernel
theorem dX6_weight_9 : decode cX6_weight 9 = .ok (.iconst 1, 1) := by decide +kernel
theorem dX6_weight_10 : decode cX6_weight 10 = .ok (.isub, 1) := by decide +kernel
theorem dX6_weight_11 : decode cX6_weight 11 = .ok (.invokestatic 45, 3) := by decide +kernel
theorem dX6_weight_14 : decode cX6_weight 14 = .ok (.ifCond .ne 7, 3) := by decide +kernel
theorem dX6_weight_17 : decode cX6_weight 17 = .ok (.sipush (-1000), 3) := by decide +kernel
theorem dX6_weight_20 : decode cX6_weight 20 = .ok (.ireturn, 1) := by decide +kernel
theorem dX6_weight_21 : decode cX6_weight 21 = .ok (.iload_n 2, 1) := by decide +kernel
theorem dX6_weight_22 : decode cX6_weight 22 = .ok (.bipush (-50), 2) := by decide +kernel
theorem dX6_weight_24 : decode cX6_weight 24 = .ok (.bipush 50, 2) := by decide +kernel
theorem dX6_weight_26 : decode cX6_weight 26 = .ok (.invokestatic 45, 3) := by decide +kernel
theorem dX6_weight_29 : decode cX6_weight 29 = .ok (.ifCond .ne 7, 3) := by decide +kernel
theorem dX6_weight_32 : decode cX6_weight 32 = .ok (.sipush (-1001), 3) := by decide +kernel
theorem dX6_weight_35 : decode cX6_weight 35 = .ok (.ireturn, 1) := by decide +kernel
theorem dX6_weight_36 : decode cX6_weight 36 = .ok (.aload_n 0, 1) := by decide +kernel
theorem dX6_weight_37 : decode cX6_weight 37 = .ok (.getfield 18, 3) := by decide +kernel
theorem dX6_weight_40 : decode cX6_weight 40 = .ok (.getfield 109, 3) := by decide +kernel
theorem dX6_weight_43 : decode cX6_weight 43 = .ok (.iload_n 1, 1) := by decide +kernel
theorem dX6_weight_44 : decode cX6_weight 44 = .ok (.iaload, 1) := by decide +kernel
theorem dX6_weight_45 : decode cX6_weight 45 = .ok (.istore_n 3, 1) := by decide +kernel
theorem dX6_weight_46 : decode cX6_weight 46 = .ok (.aload_n 0, 1) := by decide +kernel
theorem dX6_weight_47 : decode cX6_weight 47 = .ok (.getfield 18, 3) := by decide +kernel
theorem dX6_weight_50 : decode cX6_weight 50 = .ok (.getfield 109, 3) := by decide +kernel
theorem dX6_weight_53 : decode cX6_weight 53 = .ok (.iload_n 1, 1) := by decide +kernel
theorem dX6_weight_54 : decode cX6_weight 54 = .ok (.iload_n 2, 1) := by decide +kernel
theorem dX6_weight_55 : decode cX6_weight 55 = .ok (.iastore, 1) := by decide +kernel
theorem dX6_weight_56 : decode cX6_weight 56 = .ok (.iload_n 3, 1) := by decide +kernel
theorem dX6_weight_57 : decode cX6_weight 57 = .ok (.ireturn, 1) := by decide +kernel
set_option maxRecDepth 20000 in
theorem ggX6_own_X6_isSign : GoodIn wsX6_own wsX6_isSign := goodIn_r _ [7, 8, 9, 6, 10] (by decide +kernel) (by decide +kernel)
set_option maxRecDepth 20000 in
theorem gX6_own_X6_isSign : GoodIn wsX6_own (va_wsS RX6 41 yX6_isSign wsX6_isSign) := goodIn_app (goodIn_of _ (by decide +kernel)) ggX6_own_X6_isSign
set_option maxRecDepth 20000 in
theorem ggX6_own_X1_matchTo : GoodIn wsX6_own wsX1_matchTo := goodIn_r _ [15, 16, 17, 18, 19, 20, 6, 21, 29, 30, 27, 28] (by decide +kernel) (by decide +kernel)
set_option maxRecDepth 20000 in
theorem gX6_own_X1_matchTo : GoodIn wsX6_own (wsV RX6 112 RX1 yX1_matchTo wsX1_matchTo) := goodIn_app (goodIn_of _ (by decide +kernel)) ggX6_own_X1_matchTo
theorem dX6_own_0 : decode cX6_own 0 = .ok (.iload_n 1, 1) := by decide +kernel
theorem dX6_own_1 : decode cX6_own 1 = .ok (.invokestatic 41, 3) := by decide +kernel
theorem dX6_own_4 : decode cX6_own 4 = .ok (.ifCond .ne 6, 3) := by decide +kernel
theorem dX6_own_7 : decode cX6_own 7 = .ok (.bipush (-101), 2) := by decide +kernel
theorem dX6_own_9 : decode cX6_own 9 = .ok (.ireturn, 1) := by decide +kernel
theorem dX6_own_10 : decode cX6_own 10 = .ok (.aload_n 0, 1) := by decide +kernel
theorem dX6_own_11 : decode cX6_own 11 = .ok (.getfield 18, 3) := by decide +kernel
theorem dX6_own_14 : decode cX6_own 14 = .ok (.aload_n 0, 1) := by decide +kernel
theorem dX6_own_15 : decode cX6_own 15 = .ok (.getfield 11, 3) := by decide +kernel
theorem dX6_own_18 : decode cX6_own 18 = .ok (.iload_n 1, 1) := by decide +kernel
theorem dX6_own_19 : decode cX6_own 19 = .ok (.aaload, 1) := by decide +kernel
theorem dX6_own_20 : decode cX6_own 20 = .ok (.invokevirtual 112, 3) := by decide +kernel
theorem dX6_own_23 : decode cX6_own 23 = .ok (.aload_n 0, 1) := by decide +kernel
theorem dX6_own_24 : decode cX6_own 24 = .ok (.getfield 18, 3) := by decide +kernel
theorem dX6_own_27 : decode cX6_own 27 = .ok (.getfield 108, 3) := by decide +kernel
theorem dX6_own_30 : decode cX6_own 30 = .ok (.ireturn, 1) := by decide +kernel
set_option maxRecDepth 20000 in
theorem ggX6_answer_X6_isSign : GoodIn wsX6_answer wsX6_isSign := goodIn_r _ [8, 9, 10, 7, 11] (by decide +kernel) (by decide +kernel)
set_option maxRecDepth 20000 in
theorem gX6_answer_X6_isSign : GoodIn wsX6_answer (va_wsS RX6 41 yX6_isSign wsX6_isSign) := goodIn_app (goodIn_of _ (by decide +kernel)) ggX6_answer_X6_isSign
set_option maxRecDepth 20000 in
theorem ggX6_answer_X6_isPart : GoodIn wsX6_answer wsX6_isPart := goodIn_r _ [14, 9, 10, 7, 11] (by decide +kernel) (by decide +kernel)
set_option maxRecDepth 20000 in
theorem gX6_answer_X6_isPart : GoodIn wsX6_answer (va_wsS RX6 76 yX6_isPart wsX6_isPart) := goodIn_app (goodIn_of _ (by decide +kernel)) ggX6_answer_X6_isPart
set_option maxRecDepth 20000 in
theorem ggX6_answer_X1_answerPart : GoodIn wsX6_answer wsX1_answerPart := goodIn_r _ [19, 20, 21, 22, 23, 24, 25, 26, 27, 28, 10, 7, 11, 29, 30, 36, 37, 38, 39] (by decide +kernel) (by decide +kernel)
set_option maxRecDepth 20000 in
theorem gX6_answer_X1_answerPart : GoodIn wsX6_answer (wsV RX6 117 RX1 yX1_answerPart wsX1_answerPart) := goodIn_app (goodIn_of _ (by decide +kernel)) ggX6_answer_X1_answerPart
theorem dX6_answer_0 : decode cX6_answer 0 = .ok (.iload_n 1, 1) := by decide +kernel
theorem dX6_answer_1 : decode cX6_answer 1 = .ok (.invokestatic 41, 3) := by decide +kernel
theorem dX6_answer_4 : decode cX6_answer 4 = .ok (.ifCond .ne 6, 3) := by decide +kernel
theorem dX6_answer_7 : decode cX6_answer 7 = .ok (.ldc 115, 2) := by decide +kernel
theorem dX6_answer_9 : decode cX6_answer 9 = .ok (.ireturn, 1) := by decide +kernel
theorem dX6_answer_10 : decode cX6_answer 10 = .ok (.iload_n 2, 1) := by decide +kernel
theorem dX6_answer_11 : decode cX6_answer 11 = .ok (.ifCond .lt 10, 3) := by decide +kernel
theorem dX6_answer_14 : decode cX6_answer 14 = .ok (.iload_n 3, 1) := by decide +kernel
theorem dX6_answer_15 : decode cX6_answer 15 = .ok (.invokestatic 76, 3) := by decide +kernel
theorem dX6_answer_18 : decode cX6_answer 18 = .ok (.ifCond .ne 6, 3) := by decide +kernel
theorem dX6_answer_21 : decode cX6_answer 21 = .ok (.ldc 116, 2) := by decide +kernel
theorem dX6_answer_23 : decode cX6_answer 23 = .ok (.ireturn, 1) := by decide +kernel
theorem dX6_answer_24 : decode cX6_answer 24 = .ok (.aload_n 0, 1) := by decide +kernel
theorem dX6_answer_25 : decode cX6_answer 25 = .ok (.getfield 18, 3) := by decide +kernel
theorem dX6_answer_28 : decode cX6_answer 28 = .ok (.aload_n 0, 1) := by decide +kernel
theorem dX6_answer_29 : decode cX6_answer 29 = .ok (.getfield 11, 3) := by decide +kernel
theorem dX6_answer_32 : decode cX6_answer 32 = .ok (.iload_n 1, 1) := by decide +kernel
theorem dX6_answer_33 : decode cX6_answer 33 = .ok (.aaload, 1) := by decide +kernel
theorem dX6_answer_34 : decode cX6_answer 34 = .ok (.iload_n 2, 1) := by decide +kernel
theorem dX6_answer_35 : decode cX6_answer 35 = .ok (.iload_n 3, 1) := by decide +kernel
theorem dX6_answer_36 : decode cX6_answer 36 = .ok (.invokevirtual 117, 3) := by decide +kernel
theorem dX6_answer_39 : decode cX6_answer 39 = .ok (.ireturn, 1) := by decide +kernel
set_option maxRecDepth 20000 in
theorem ggX6_greatest_X6_isSign : GoodIn wsX6_greatest wsX6_isSign := goodIn_r _ [6, 7, 8, 5, 9] (by decide +kernel) (by decide +kernel)
set_option maxRecDepth 20000 in
theorem gX6_greatest_X6_isSign : GoodIn wsX6_greatest (va_wsS RX6 41 yX6_isSign wsX6_isSign) := goodIn_app (goodIn_of _ (by decide +kernel)) ggX6_greatest_X6_isSign
set_option maxRecDepth 20000 in
theorem ggX6_greatest_X1_greatestPlace : GoodIn wsX6_greatest wsX1_greatestPlace := goodIn_r _ [14, 15, 16, 17, 18, 19, 13, 20, 21, 22, 23, 24, 25, 26, 27, 28, 29, 30, 31, 32, 8, 5, 9, 33, 34, 40, 41, 42, 43] (by decide +kernel) (by decide +kernel)
set_option maxRecDepth 20000 in
theorem gX6_greatest_X1_greatestPlace : GoodIn wsX6_greatest (wsV RX6 121 RX1 yX1_greatestPlace wsX1_greatestPlace) := goodIn_app (goodIn_of _ (by decide +kernel)) ggX6_greatest_X1_greatestPlace
theorem dX6_greatest_0 : decode cX6_greatest 0 = .ok (.iload_n 1, 1) := by decide +kernel
theorem dX6_greatest_1 : decode cX6_greatest 1 = .ok (.invokestatic 41, 3) := by decide +kernel
theorem dX6_greatest_4 : decode cX6_greatest 4 = .ok (.ifCond .eq 19, 3) := by decide +kernel
theorem dX6_greatest_7 : decode cX6_greatest 7 = .ok (.aload_n 0, 1) := by decide +kernel
theorem dX6_greatest_8 : decode cX6_greatest 8 = .ok (.getfield 18, 3) := by decide +kernel
theorem dX6_greatest_11 : decode cX6_greatest 11 = .ok (.aload_n 0, 1) := by decide +kernel
theorem dX6_greatest_12 : decode cX6_greatest 12 = .ok (.getfield 11, 3) := by decide +kernel
theorem dX6_greatest_15 : decode cX6_greatest 15 = .ok (.iload_n 1, 1) := by decide +kernel
theorem dX6_greatest_16 : decode cX6_greatest 16 = .ok (.aaload, 1) := by decide +kernel
theorem dX6_greatest_17 : decode cX6_greatest 17 = .ok (.invokevirtual 121, 3) := by decide +kernel
theorem dX6_greatest_20 : decode cX6_greatest 20 = .ok (.goto 5, 3) := by decide +kernel
theorem dX6_greatest_23 : decode cX6_greatest 23 = .ok (.bipush (-101), 2) := by decide +kernel
theorem dX6_greatest_25 : decode cX6_greatest 25 = .ok (.ireturn, 1) := by decide +kernel
set_option maxRecDepth 20000 in
theorem ggX6_clear_X6_isSign : GoodIn wsX6_clear wsX6_isSign := goodIn_r _ [6, 7, 8, 5, 9] (by decide +kernel) (by decide +kernel)
set_option maxRecDepth 20000 in
theorem gX6_clear_X6_isSign : GoodIn wsX6_clear (va_wsS RX6 41 yX6_isSign wsX6_isSign) := goodIn_app (goodIn_of _ (by decide +kernel)) ggX6_clear_X6_isSign
set_option maxRecDepth 20000 in
theorem ggX6_clear_X1_clearness : GoodIn wsX6_clear wsX1_clearness := goodIn_r _ [14, 15, 16, 17, 18, 19, 20, 21, 22, 23, 24, 13, 25, 26, 27, 28, 29, 30, 31, 32, 33, 34, 35, 36, 37, 38, 39, 40, 41, 8, 5, 9, 42, 43, 49, 50, 51, 52] (by decide +kernel) (by decide +kernel)
set_option maxRecDepth 20000 in
theorem gX6_clear_X1_clearness : GoodIn wsX6_clear (wsV RX6 125 RX1 yX1_clearness wsX1_clearness) := goodIn_app (goodIn_of _ (by decide +kernel)) ggX6_clear_X1_clearness
theorem dX6_clear_0 : decode cX6_clear 0 = .ok (.iload_n 1, 1) := by decide +kernel
theorem dX6_clear_1 : decode cX6_clear 1 = .ok (.invokestatic 41, 3) := by decide +kernel
theorem dX6_clear_4 : decode cX6_clear 4 = .ok (.ifCond .eq 19, 3) := by decide +kernel
theorem dX6_clear_7 : decode cX6_clear 7 = .ok (.aload_n 0, 1) := by decide +kernel
theorem dX6_clear_8 : decode cX6_clear 8 = .ok (.getfield 18, 3) := by decide +kernel
theorem dX6_clear_11 : decode cX6_clear 11 = .ok (.aload_n 0, 1) := by decide +kernel
theorem dX6_clear_12 : decode cX6_clear 12 = .ok (.getfield 11, 3) := by decide +kernel
theorem dX6_clear_15 : decode cX6_clear 15 = .ok (.iload_n 1, 1) := by decide +kernel
theorem dX6_clear_16 : decode cX6_clear 16 = .ok (.aaload, 1) := by decide +kernel
theorem dX6_clear_17 : decode cX6_clear 17 = .ok (.invokevirtual 125, 3) := by decide +kernel
theorem dX6_clear_20 : decode cX6_clear 20 = .ok (.goto 5, 3) := by decide +kernel
theorem dX6_clear_23 : decode cX6_clear 23 = .ok (.bipush (-101), 2) := by decide +kernel
theorem dX6_clear_25 : decode cX6_clear 25 = .ok (.ireturn, 1) := by decide +kernel
set_option maxRecDepth 20000 in
theorem ggX6_rests_X6_within : GoodIn wsX6_rests wsX6_within := goodIn_r _ [5] (by decide +kernel) (by decide +kernel)
set_option maxRecDepth 20000 in
theorem gX6_rests_X6_within : GoodIn wsX6_rests (va_wsS RX6 45 yX6_within wsX6_within) := goodIn_app (goodIn_of _ (by decide +kernel)) ggX6_rests_X6_within
set_option maxRecDepth 20000 in
theorem ggX6_rests_X2_reset : GoodIn wsX6_rests wsX2_reset := goodIn_r _ [10, 11, 12, 13, 19, 20, 21] (by decide +kernel) (by decide +kernel)
set_option maxRecDepth 20000 in
theorem gX6_rests_X2_reset : GoodIn wsX6_rests (wsV RX6 128 RX2 yX2_reset wsX2_reset) := goodIn_app (goodIn_of _ (by decide +kernel)) ggX6_rests_X2_reset
theorem dX6_rests_0 : decode cX6_rests 0 = .ok (.iload_n 1, 1) := by decide +kernel
theorem dX6_rests_1 : decode cX6_rests 1 = .ok (.iconst 1, 1) := by decide +kernel
theorem dX6_rests_2 : decode cX6_rests 2 = .ok (.iconst 4, 1) := by decide +kernel
theorem dX6_rests_3 : decode cX6_rests 3 = .ok (.invokestatic 45, 3) := by decide +kernel
theorem dX6_rests_6 : decode cX6_rests 6 = .ok (.ifCond .ne 6, 3) := by decide +kernel
theorem dX6_rests_9 : decode cX6_rests 9 = .ok (.bipush (-102), 2) := by decide +kernel
theorem dX6_rests_11 : decode cX6_rests 11 = .ok (.ireturn, 1) := by decide +kernel
theorem dX6_rests_12 : decode cX6_rests 12 = .ok (.aload_n 0, 1) := by decide +kernel
theorem dX6_rests_13 : decode cX6_rests 13 = .ok (.getfield 25, 3) := by decide +kernel
theorem dX6_rests_16 : decode cX6_rests 16 = .ok (.iload_n 1, 1) := by decide +kernel
theorem dX6_rests_17 : decode cX6_rests 17 = .ok (.invokevirtual 128, 3) := by decide +kernel
theorem dX6_rests_20 : decode cX6_rests 20 = .ok (.iload_n 1, 1) := by decide +kernel
theorem dX6_rests_21 : decode cX6_rests 21 = .ok (.ireturn, 1) := by decide +kernel
set_option maxRecDepth 20000 in
theorem ggX6_rest_X2_has : GoodIn wsX6_rest wsX2_has := goodIn_r _ [8, 9, 10, 11, 12, 19, 20, 21] (by decide +kernel) (by decide +kernel)
set_option maxRecDepth 20000 in
theorem gX6_rest_X2_has : GoodIn wsX6_rest (wsV RX6 129 RX2 yX2_has wsX2_has) := goodIn_app (goodIn_of _ (by decide +kernel)) ggX6_rest_X2_has
set_option maxRecDepth 20000 in
theorem ggX6_rest_X6_within : GoodIn wsX6_rest wsX6_within := goodIn_r _ [12] (by decide +kernel) (by decide +kernel)
set_option maxRecDepth 20000 in
theorem gX6_rest_X6_within : GoodIn wsX6_rest (va_wsS RX6 45 yX6_within wsX6_within) := goodIn_app (goodIn_of _ (by decide +kernel)) ggX6_rest_X6_within
theorem dX6_rest_0 : decode cX6_rest 0 = .ok (.aload_n 0, 1) := by decide +kernel
theorem dX6_rest_1 : decode cX6_rest 1 = .ok (.getfield 25, 3) := by decide +kernel
theorem dX6_rest_4 : decode cX6_rest 4 = .ok (.iload_n 1, 1) := by decide +kernel
theorem dX6_rest_5 : decode cX6_rest 5 = .ok (.invokevirtual 129, 3) := by decide +kernel
theorem dX6_rest_8 : decode cX6_rest 8 = .ok (.ifCond .ne 6, 3) := by decide +kernel
theorem dX6_rest_11 : decode cX6_rest 11 = .ok (.bipush (-101), 2) := by decide +kernel
theorem dX6_rest_13 : decode cX6_rest 13 = .ok (.ireturn, 1) := by decide +kernel
theorem dX6_rest_14 : decode cX6_rest 14 = .ok (.iload_n 2, 1) := by decide +kernel
theorem dX6_rest_15 : decode cX6_rest 15 = .ok (.iconst 2, 1) := by decide +kernel
theorem dX6_rest_16 : decode cX6_rest 16 = .ok (.bipush 60, 2) := by decide +kernel
theorem dX6_rest_18 : decode cX6_rest 18 = .ok (.invokestatic 45, 3) := by decide +kernel
theorem dX6_rest_21 : decode cX6_rest 21 = .ok (.ifCond .ne 6, 3) := by decide +kernel
theorem dX6_rest_24 : decode cX6_rest 24 = .ok (.bipush (-102), 2) := by decide +kernel
theorem dX6_rest_26 : decode cX6_rest 26 = .ok (.ireturn, 1) := by decide +kernel
theorem dX6_rest_27 : decode cX6_rest 27 = .ok (.aload_n 0, 1) := by decide +kernel
theorem dX6_rest_28 : decode cX6_rest 28 = .ok (.getfield 25, 3) := by decide +kernel
theorem dX6_rest_31 : decode cX6_rest 31 = .ok (.getfield 130, 3) := by decide +kernel
theorem dX6_rest_34 : decode cX6_rest 34 = .ok (.iload_n 1, 1) := by decide +kernel
theorem dX6_rest_35 : decode cX6_rest 35 = .ok (.iaload, 1) := by decide +kernel
theorem dX6_rest_36 : decode cX6_rest 36 = .ok (.istore_n 3, 1) := by decide +kernel
theorem dX6_rest_37 : decode cX6_rest 37 = .ok (.aload_n 0, 1) := by decide +kernel
theorem dX6_rest_38 : decode cX6_rest 38 = .ok (.getfield 25, 3) := by decide +kernel
theorem dX6_rest_41 : decode cX6_rest 41 = .ok (.getfield 130, 3) := by decide +kernel
theorem dX6_rest_44 : decode cX6_rest 44 = .ok (.iload_n 1, 1) := by decide +kernel
theorem dX6_rest_45 : decode cX6_rest 45 = .ok (.iload_n 2, 1) := by decide +kernel
theorem dX6_rest_46 : decode cX6_rest 46 = .ok (.iastore, 1) := by decide +kernel
theorem dX6_rest_47 : decode cX6_rest 47 = .ok (.aload_n 0, 1) := by decide +kernel
theorem dX6_rest_48 : decode cX6_rest 48 = .ok (.getfield 25, 3) := by decide +kernel
theorem dX6_rest_51 : decode cX6_rest 51 = .ok (.getfield 133, 3) := by decide +kernel
theorem dX6_rest_54 : decode cX6_rest 54 = .ok (.iload_n 1, 1) := by decide +kernel
theorem dX6_rest_55 : decode cX6_rest 55 = .ok (.iconst (-1), 1) := by decide +kernel
theorem dX6_rest_56 : decode cX6_rest 56 = .ok (.iastore, 1) := by decide +kernel
theorem dX6_rest_57 : decode cX6_rest 57 = .ok (.iload_n 3, 1) := by decide +kernel
theorem dX6_rest_58 : decode cX6_rest 58 = .ok (.ireturn, 1) := by decide +kernel
set_option maxRecDepth 20000 in
theorem ggX6_read_X2_has : GoodIn wsX6_read wsX2_has := goodIn_r _ [8, 9, 10, 11, 12, 19, 20, 21] (by decide +kernel) (by decide +kernel)
set_option maxRecDepth 20000 in
theorem gX6_read_X2_has : GoodIn wsX6_read (wsV RX6 129 RX2 yX2_has wsX2_has) := goodIn_app (goodIn_of _ (by decide +kernel)) ggX6_read_X2_has
set_option maxRecDepth 20000 in
theorem ggX6_read_X6_within : GoodIn wsX6_read wsX6_within := goodIn_r _ [12] (by decide +kernel) (by decide +kernel)
set_option maxRecDepth 20000 in
theorem gX6_read_X6_within : GoodIn wsX6_read (va_wsS RX6 45 yX6_within wsX6_within) := goodIn_app (goodIn_of _ (by decide +kernel)) ggX6_read_X6_within
theorem dX6_read_0 : decode cX6_read 0 = .ok (.aload_n 0, 1) := by decide +kernel
theorem dX6_read_1 : decode cX6_read 1 = .ok (.getfield 25, 3) := by decide +kernel
theorem dX6_read_4 : decode cX6_read 4 = .ok (.iload_n 1, 1) := by decide +kernel
theorem dX6_read_5 : decode cX6_read 5 = .ok (.invokevirtual 129, 3) := by decide +kernel
theorem dX6_read_8 : decode cX6_read 8 = .ok (.ifCond .ne 6, 3) := by decide +kernel
theorem dX6_read_11 : decode cX6_read 11 = .ok (.bipush (-101), 2) := by decide +kernel
theorem dX6_read_13 : decode cX6_read 13 = .ok (.ireturn, 1) := by decide +kernel
theorem dX6_read_14 : decode cX6_read 14 = .ok (.iload_n 2, 1) := by decide +kernel
theorem dX6_read_15 : decode cX6_read 15 = .ok (.iconst (-1), 1) := by decide +kernel
theorem dX6_read_16 : decode cX6_read 16 = .ok (.if_icmp .eq 25, 3) := by decide +kernel
theorem dX6_read_19 : decode cX6_read 19 = .ok (.iload_n 2, 1) := by decide +kernel
theorem dX6_read_20 : decode cX6_read 20 = .ok (.iconst 0, 1) := by decide +kernel
theorem dX6_read_21 : decode cX6_read 21 = .ok (.aload_n 0, 1) := by decide +kernel
theorem dX6_read_22 : decode cX6_read 22 = .ok (.getfield 25, 3) := by decide +kernel
theorem dX6_read_25 : decode cX6_read 25 = .ok (.getfield 130, 3) := by decide +kernel
theorem dX6_read_28 : decode cX6_read 28 = .ok (.iload_n 1, 1) := by decide +kernel
theorem dX6_read_29 : decode cX6_read 29 = .ok (.iaload, 1) := by decide +kernel
theorem dX6_read_30 : decode cX6_read 30 = .ok (.iconst 1, 1) := by decide +kernel
theorem dX6_read_31 : decode cX6_read 31 = .ok (.isub, 1) := by decide +kernel
theorem dX6_read_32 : decode cX6_read 32 = .ok (.invokestatic 45, 3) := by decide +kernel
theorem dX6_read_35 : decode cX6_read 35 = .ok (.ifCond .ne 6, 3) := by decide +kernel
theorem dX6_read_38 : decode cX6_read 38 = .ok (.bipush (-102), 2) := by decide +kernel
theorem dX6_read_40 : decode cX6_read 40 = .ok (.ireturn, 1) := by decide +kernel
theorem dX6_read_41 : decode cX6_read 41 = .ok (.aload_n 0, 1) := by decide +kernel
theorem dX6_read_42 : decode cX6_read 42 = .ok (.getfield 25, 3) := by decide +kernel
theorem dX6_read_45 : decode cX6_read 45 = .ok (.getfield 133, 3) := by decide +kernel
theorem dX6_read_48 : decode cX6_read 48 = .ok (.iload_n 1, 1) := by decide +kernel
theorem dX6_read_49 : decode cX6_read 49 = .ok (.iaload, 1) := by decide +kernel
theorem dX6_read_50 : decode cX6_read 50 = .ok (.istore_n 3, 1) := by decide +kernel
theorem dX6_read_51 : decode cX6_read 51 = .ok (.aload_n 0, 1) := by decide +kernel
theorem dX6_read_52 : decode cX6_read 52 = .ok (.getfield 25, 3) := by decide +kernel
theorem dX6_read_55 : decode cX6_read 55 = .ok (.getfield 133, 3) := by decide +kernel
theorem dX6_read_58 : decode cX6_read 58 = .ok (.iload_n 1, 1) := by decide +kernel
theorem dX6_read_59 : decode cX6_read 59 = .ok (.iload_n 2, 1) := by decide +kernel
theorem dX6_read_60 : decode cX6_read 60 = .ok (.iastore, 1) := by decide +kernel
theorem dX6_read_61 : decode cX6_read 61 = .ok (.iload_n 3, 1) := by decide +kernel
theorem dX6_read_62 : decode cX6_read 62 = .ok (.ireturn, 1) := by decide +kernel
set_option maxRecDepth 20000 in
theorem ggX6_fold_X6_within : GoodIn wsX6_fold wsX6_within := goodIn_r _ [7] (by decide +kernel) (by decide +kernel)
set_option maxRecDepth 20000 in
theorem gX6_fold_X6_within : GoodIn wsX6_fold (va_wsS RX6 45 yX6_within wsX6_within) := goodIn_app (goodIn_of _ (by decide +kernel)) ggX6_fold_X6_within
set_option maxRecDepth 20000 in
theorem ggX6_fold_X2_readAll : GoodIn wsX6_fold wsX2_readAll := goodIn_r _ [12, 13, 14, 15, 21, 22, 23] (by decide +kernel) (by decide +kernel)
set_option maxRecDepth 20000 in
theorem gX6_fold_X2_readAll : GoodIn wsX6_fold (wsV RX6 137 RX2 yX2_readAll wsX2_readAll) := goodIn_app (goodIn_of _ (by decide +kernel)) ggX6_fold_X2_readAll
theorem dX6_fold_0 : decode cX6_fold 0 = .ok (.iload_n 1, 1) := by decide +kernel
theorem dX6_fold_1 : decode cX6_fold 1 = .ok (.iconst 0, 1) := by decide +kernel
theorem dX6_fold_2 : decode cX6_fold 2 = .ok (.ldc 136, 2) := by decide +kernel
theorem dX6_fold_4 : decode cX6_fold 4 = .ok (.invokestatic 45, 3) := by decide +kernel
theorem dX6_fold_7 : decode cX6_fold 7 = .ok (.ifCond .ne 6, 3) := by decide +kernel
theorem dX6_fold_10 : decode cX6_fold 10 = .ok (.bipush (-102), 2) := by decide +kernel
theorem dX6_fold_12 : decode cX6_fold 12 = .ok (.ireturn, 1) := by decide +kernel
theorem dX6_fold_13 : decode cX6_fold 13 = .ok (.aload_n 0, 1) := by decide +kernel
theorem dX6_fold_14 : decode cX6_fold 14 = .ok (.getfield 25, 3) := by decide +kernel
theorem dX6_fold_17 : decode cX6_fold 17 = .ok (.iload_n 1, 1) := by decide +kernel
theorem dX6_fold_18 : decode cX6_fold 18 = .ok (.invokevirtual 137, 3) := by decide +kernel
theorem dX6_fold_21 : decode cX6_fold 21 = .ok (.aload_n 0, 1) := by decide +kernel
theorem dX6_fold_22 : decode cX6_fold 22 = .ok (.getfield 25, 3) := by decide +kernel
theorem dX6_fold_25 : decode cX6_fold 25 = .ok (.getfield 140, 3) := by decide +kernel
theorem dX6_fold_28 : decode cX6_fold 28 = .ok (.ireturn, 1) := by decide +kernel
set_option maxRecDepth 20000 in
theorem ggX6_unfold_X2_mayUnfold : GoodIn wsX6_unfold wsX2_mayUnfold := goodIn_r _ [5, 6, 7, 8] (by decide +kernel) (by decide +kernel)
set_option maxRecDepth 20000 in
theorem gX6_unfold_X2_mayUnfold : GoodIn wsX6_unfold (va_wsS RX6 141 yX2_mayUnfold wsX2_mayUnfold) := goodIn_app (goodIn_of _ (by decide +kernel)) ggX6_unfold_X2_mayUnfold
set_option maxRecDepth 20000 in
theorem ggX6_unfold_X2_fitting : GoodIn wsX6_unfold wsX2_fitting := goodIn_r _ [12, 13, 14, 15, 4, 16, 17, 18, 19, 20, 21, 22, 23, 24, 25, 26, 27, 28, 29, 30, 36, 37, 38] (by decide +kernel) (by decide +kernel)
set_option maxRecDepth 20000 in
theorem gX6_unfold_X2_fitting : GoodIn wsX6_unfold (wsV RX6 144 RX2 yX2_fitting wsX2_fitting) := goodIn_app (goodIn_of _ (by decide +kernel)) ggX6_unfold_X2_fitting
theorem dX6_unfold_0 : decode cX6_unfold 0 = .ok (.iload_n 1, 1) := by decide +kernel
theorem dX6_unfold_1 : decode cX6_unfold 1 = .ok (.iload_n 2, 1) := by decide +kernel
theorem dX6_unfold_2 : decode cX6_unfold 2 = .ok (.iload_n 3, 1) := by decide +kernel
theorem dX6_unfold_3 : decode cX6_unfold 3 = .ok (.invokestatic 141, 3) := by decide +kernel
theorem dX6_unfold_6 : decode cX6_unfold 6 = .ok (.ifCond .eq 16, 3) := by decide +kernel
theorem dX6_unfold_9 : decode cX6_unfold 9 = .ok (.aload_n 0, 1) := by decide +kernel
theorem dX6_unfold_10 : decode cX6_unfold 10 = .ok (.getfield 25, 3) := by decide +kernel
theorem dX6_unfold_13 : decode cX6_unfold 13 = .ok (.iload_n 1, 1) := by decide +kernel
theorem dX6_unfold_14 : decode cX6_unfold 14 = .ok (.iload_n 2, 1) := by decide +kernel
theorem dX6_unfold_15 : decode cX6_unfold 15 = .ok (.iload_n 3, 1) := by decide +kernel
theorem dX6_unfold_16 : decode cX6_unfold 16 = .ok (.invokevirtual 144, 3) := by decide +kernel
theorem dX6_unfold_19 : decode cX6_unfold 19 = .ok (.goto 5, 3) := by decide +kernel
theorem dX6_unfold_22 : decode cX6_unfold 22 = .ok (.bipush (-102), 2) := by decide +kernel
theorem dX6_unfold_24 : decode cX6_unfold 24 = .ok (.ireturn, 1) := by decide +kernel
set_option maxRecDepth 20000 in
theorem ggX6_unfolded_X2_mayUnfold : GoodIn wsX6_unfolded wsX2_mayUnfold := goodIn_r _ [5, 6, 7, 8] (by decide +kernel) (by decide +kernel)
set_option maxRecDepth 20000 in
theorem gX6_unfolded_X2_mayUnfold : GoodIn wsX6_unfolded (va_wsS RX6 141 yX2_mayUnfold wsX2_mayUnfold) := goodIn_app (goodIn_of _ (by decide +kernel)) ggX6_unfolded_X2_mayUnfold
set_option maxRecDepth 20000 in
theorem ggX6_unfolded_X2_fittingAt : GoodIn wsX6_unfolded wsX2_fittingAt := goodIn_r _ [12, 13, 14, 15, 4, 16, 17, 18, 19, 20, 21, 22, 23, 24, 25, 26, 27, 28, 29, 30, 36, 37, 38] (by decide +kernel) (by decide +kernel)
set_option maxRecDepth 20000 in
theorem gX6_unfolded_X2_fittingAt : GoodIn wsX6_unfolded (wsV RX6 148 RX2 yX2_fittingAt wsX2_fittingAt) := goodIn_app (goodIn_of _ (by decide +kernel)) ggX6_unfolded_X2_fittingAt
theorem dX6_unfolded_0 : decode cX6_unfolded 0 = .ok (.iload_n 1, 1) := by decide +kernel
theorem dX6_unfolded_1 : decode cX6_unfolded 1 = .ok (.iload_n 2, 1) := by decide +kernel
theorem dX6_unfolded_2 : decode cX6_unfolded 2 = .ok (.iload_n 3, 1) := by decide +kernel
theorem dX6_unfolded_3 : decode cX6_unfolded 3 = .ok (.invokestatic 141, 3) := by decide +kernel
theorem dX6_unfolded_6 : decode cX6_unfolded 6 = .ok (.ifCond .eq 18, 3) := by decide +kernel
theorem dX6_unfolded_9 : decode cX6_unfolded 9 = .ok (.aload_n 0, 1) := by decide +kernel
theorem dX6_unfolded_10 : decode cX6_unfolded 10 = .ok (.getfield 25, 3) := by decide +kernel
theorem dX6_unfolded_13 : decode cX6_unfolded 13 = .ok (.iload_n 1, 1) := by decide +kernel
theorem dX6_unfolded_14 : decode cX6_unfolded 14 = .ok (.iload_n 2, 1) := by decide +kernel
theorem dX6_unfolded_15 : decode cX6_unfolded 15 = .ok (.iload_n 3, 1) := by decide +kernel
theorem dX6_unfolded_16 : decode cX6_unfolded 16 = .ok (.iload 4, 2) := by decide +kernel
theorem dX6_unfolded_18 : decode cX6_unfolded 18 = .ok (.invokevirtual 148, 3) := by decide +kernel
theorem dX6_unfolded_21 : decode cX6_unfolded 21 = .ok (.goto 5, 3) := by decide +kernel
theorem dX6_unfolded_24 : decode cX6_unfolded 24 = .ok (.bipush (-102), 2) := by decide +kernel
theorem dX6_unfolded_26 : decode cX6_unfolded 26 = .ok (.ireturn, 1) := by decide +kernel
set_option maxRecDepth 20000 in
theorem ggX6_common_X2_leastCommon : GoodIn wsX6_common wsX2_leastCommon := goodIn_r _ [6, 7, 8, 9, 10, 11, 17, 18, 19] (by decide +kernel) (by decide +kernel)
set_option maxRecDepth 20000 in
theorem gX6_common_X2_leastCommon : GoodIn wsX6_common (wsV RX6 152 RX2 yX2_leastCommon wsX2_leastCommon) := goodIn_app (goodIn_of _ (by decide +kernel)) ggX6_common_X2_leastCommon
theorem dX6_common_0 : decode cX6_common 0 = .ok (.aload_n 0, 1) := by decide +kernel
theorem dX6_common_1 : decode cX6_common 1 = .ok (.getfield 25, 3) := by decide +kernel
theorem dX6_common_4 : decode cX6_common 4 = .ok (.invokevirtual 152, 3) := by decide +kernel
theorem dX6_common_7 : decode cX6_common 7 = .ok (.ireturn, 1) := by decide +kernel
set_option maxRecDepth 20000 in
theorem ggX6_blind_X2_has : GoodIn wsX6_blind wsX2_has := goodIn_r _ [7, 8, 9, 10, 11, 25, 26, 27] (by decide +kernel) (by decide +kernel)
set_option maxRecDepth 20000 in
theorem gX6_blind_X2_has : GoodIn wsX6_blind (wsV RX6 129 RX2 yX2_has wsX2_has) := goodIn_app (goodIn_of _ (by decide +kernel)) ggX6_blind_X2_has
set_option maxRecDepth 20000 in
theorem ggX6_blind_X6_within : GoodIn wsX6_blind wsX6_within := goodIn_r _ [11] (by decide +kernel) (by decide +kernel)
set_option maxRecDepth 20000 in
theorem gX6_blind_X6_within : GoodIn wsX6_blind (va_wsS RX6 45 yX6_within wsX6_within) := goodIn_app (goodIn_of _ (by decide +kernel)) ggX6_blind_X6_within
set_option maxRecDepth 20000 in
theorem ggX6_blind_X2_unseen : GoodIn wsX6_blind wsX2_unseen := goodIn_r _ [16, 17, 18, 10, 19, 25, 26, 27] (by decide +kernel) (by decide +kernel)
set_option maxRecDepth 20000 in
theorem gX6_blind_X2_unseen : GoodIn wsX6_blind (wsV RX6 155 RX2 yX2_unseen wsX2_unseen) := goodIn_app (goodIn_of _ (by decide +kernel)) ggX6_blind_X2_unseen
theorem dX6_blind_0 : decode cX6_blind 0 = .ok (.iload_n 1, 1) := by decide +kernel
theorem dX6_blind_1 : decode cX6_blind 1 = .ok (.iconst (-1), 1) := by decide +kernel
theorem dX6_blind_2 : decode cX6_blind 2 = .ok (.if_icmp .eq 17, 3) := by decide +kernel
theorem dX6_blind_5 : decode cX6_blind 5 = .ok (.aload_n 0, 1) := by decide +kernel
theorem dX6_blind_6 : decode cX6_blind 6 = .ok (.getfield 25, 3) := by decide +kernel
theorem dX6_blind_9 : decode cX6_blind 9 = .ok (.iload_n 1, 1) := by decide +kernel
theorem dX6_blind_10 : decode cX6_blind 10 = .ok (.invokevirtual 129, 3) := by decide +kernel
theorem dX6_blind_13 : decode cX6_blind 13 = .ok (.ifCond .ne 6, 3) := by decide +kernel
theorem dX6_blind_16 : decode cX6_blind 16 = .ok (.bipush (-101), 2) := by decide +kernel
theorem dX6_blind_18 : decode cX6_blind 18 = .ok (.ireturn, 1) := by decide +kernel
theorem dX6_blind_19 : decode cX6_blind 19 = .ok (.iload_n 2, 1) := by decide +kernel
theorem dX6_blind_20 : decode cX6_blind 20 = .ok (.iconst 1, 1) := by decide +kernel
theorem dX6_blind_21 : decode cX6_blind 21 = .ok (.sipush 3600, 3) := by decide +kernel
theorem dX6_blind_24 : decode cX6_blind 24 = .ok (.invokestatic 45, 3) := by decide +kernel
theorem dX6_blind_27 : decode cX6_blind 27 = .ok (.ifCond .ne 6, 3) := by decide +kernel
theorem dX6_blind_30 : decode cX6_blind 30 = .ok (.bipush (-102), 2) := by decide +kernel
theorem dX6_blind_32 : decode cX6_blind 32 = .ok (.ireturn, 1) := by decide +kernel
theorem dX6_blind_33 : decode cX6_blind 33 = .ok (.iload_n 1, 1) := by decide +kernel
theorem dX6_blind_34 : decode cX6_blind 34 = .ok (.iconst (-1), 1) := by decide +kernel
theorem dX6_blind_35 : decode cX6_blind 35 = .ok (.if_icmp .ne 24, 3) := by decide +kernel
theorem dX6_blind_38 : decode cX6_blind 38 = .ok (.aload_n 0, 1) := by decide +kernel
theorem dX6_blind_39 : decode cX6_blind 39 = .ok (.getfield 25, 3) := by decide +kernel
theorem dX6_blind_42 : decode cX6_blind 42 = .ok (.iconst 0, 1) := by decide +kernel
theorem dX6_blind_43 : decode cX6_blind 43 = .ok (.aload_n 0, 1) := by decide +kernel
theorem dX6_blind_44 : decode cX6_blind 44 = .ok (.getfield 25, 3) := by decide +kernel
theorem dX6_blind_47 : decode cX6_blind 47 = .ok (.getfield 140, 3) := by decide +kernel
theorem dX6_blind_50 : decode cX6_blind 50 = .ok (.iconst 1, 1) := by decide +kernel
theorem dX6_blind_51 : decode cX6_blind 51 = .ok (.isub, 1) := by decide +kernel
theorem dX6_blind_52 : decode cX6_blind 52 = .ok (.iload_n 2, 1) := by decide +kernel
theorem dX6_blind_53 : decode cX6_blind 53 = .ok (.invokevirtual 155, 3) := by decide +kernel
theorem dX6_blind_56 : decode cX6_blind 56 = .ok (.goto 13, 3) := by decide +kernel
theorem dX6_blind_59 : decode cX6_blind 59 = .ok (.aload_n 0, 1) := by decide +kernel
theorem dX6_blind_60 : decode cX6_blind 60 = .ok (.getfield 25, 3) := by decide +kernel
theorem dX6_blind_63 : decode cX6_blind 63 = .ok (.iload_n 1, 1) := by decide +kernel
theorem dX6_blind_64 : decode cX6_blind 64 = .ok (.iload_n 1, 1) := by decide +kernel
theorem dX6_blind_65 : decode cX6_blind 65 = .ok (.iload_n 2, 1) := by decide +kernel
theorem dX6_blind_66 : decode cX6_blind 66 = .ok (.invokevirtual 155, 3) := by decide +kernel
theorem dX6_blind_69 : decode cX6_blind 69 = .ok (.ireturn, 1) := by decide +kernel
set_option maxRecDepth 20000 in
theorem ggX6_put_X6_within : GoodIn wsX6_put wsX6_within := goodIn_r _ [6] (by decide +kernel) (by decide +kernel)
set_option maxRecDepth 20000 in
theorem gX6_put_X6_within : GoodIn wsX6_put (va_wsS RX6 45 yX6_within wsX6_within) := goodIn_app (goodIn_of _ (by decide +kernel)) ggX6_put_X6_within
set_option maxRecDepth 20000 in
theorem ggX6_put_X3_append : GoodIn wsX6_put wsX3_append := goodIn_r _ [11, 12, 13, 19, 20, 21] (by decide +kernel) (by decide +kernel)
set_option maxRecDepth 20000 in
theorem gX6_put_X3_append : GoodIn wsX6_put (wsV RX6 158 RX3 yX3_append wsX3_append) := goodIn_app (goodIn_of _ (by decide +kernel)) ggX6_put_X3_append
theorem dX6_put_0 : decode cX6_put 0 = .ok (.iload_n 1, 1) := by decide +kernel
theorem dX6_put_1 : decode cX6_put 1 = .ok (.iconst 0, 1) := by decide +kernel
theorem dX6_put_2 : decode cX6_put 2 = .ok (.sipush 10000, 3) := by decide +kernel
theorem dX6_put_5 : decode cX6_put 5 = .ok (.invokestatic 45, 3) := by decide +kernel
theorem dX6_put_8 : decode cX6_put 8 = .ok (.ifCond .ne 6, 3) := by decide +kernel
theorem dX6_put_11 : decode cX6_put 11 = .ok (.bipush (-102), 2) := by decide +kernel
theorem dX6_put_13 : decode cX6_put 13 = .ok (.ireturn, 1) := by decide +kernel
theorem dX6_put_14 : decode cX6_put 14 = .ok (.aload_n 0, 1) := by decide +kernel
theorem dX6_put_15 : decode cX6_put 15 = .ok (.getfield 32, 3) := by decide +kernel
theorem dX6_put_18 : decode cX6_put 18 = .ok (.iload_n 1, 1) := by decide +kernel
theorem dX6_put_19 : decode cX6_put 19 = .ok (.invokevirtual 158, 3) := by decide +kernel
theorem dX6_put_22 : decode cX6_put 22 = .ok (.ifCond .eq 13, 3) := by decide +kernel
theorem dX6_put_25 : decode cX6_put 25 = .ok (.aload_n 0, 1) := by decide +kernel
theorem dX6_put_26 : decode cX6_put 26 = .ok (.getfield 32, 3) := by decide +kernel
theorem dX6_put_29 : decode cX6_put 29 = .ok (.getfield 161, 3) := by decide +kernel
theorem dX6_put_32 : decode cX6_put 32 = .ok (.goto 5, 3) := by decide +kernel
theorem dX6_put_35 : decode cX6_put 35 = .ok (.bipush (-104), 2) := by decide +kernel
theorem dX6_put_37 : decode cX6_put 37 = .ok (.ireturn, 1) := by decide +kernel
theorem dX6_empty_0 : decode cX6_empty 0 = .ok (.aload_n 0, 1) := by decide +kernel
theorem dX6_empty_1 : decode cX6_empty 1 = .ok (.getfield 32, 3) := by decide +kernel
theorem dX6_empty_4 : decode cX6_empty 4 = .ok (.getfield 161, 3) := by decide +kernel
theorem dX6_empty_7 : decode cX6_empty 7 = .ok (.istore_n 1, 1) := by decide +kernel
theorem dX6_empty_8 : decode cX6_empty 8 = .ok (.aload_n 0, 1) := by decide +kernel
theorem dX6_empty_9 : decode cX6_empty 9 = .ok (.getfield 32, 3) := by decide +kernel
theorem dX6_empty_12 : decode cX6_empty 12 = .ok (.iconst 0, 1) := by decide +kernel
theorem dX6_empty_13 : decode cX6_empty 13 = .ok (.putfield 161, 3) := by decide +kernel
theorem dX6_empty_16 : decode cX6_empty 16 = .ok (.iload_n 1, 1) := by decide +kernel
theorem dX6_empty_17 : decode cX6_empty 17 = .ok (.ireturn, 1) := by decide +kernel
set_option maxRecDepth 20000 in
theorem ggX6_found_X6_within : GoodIn wsX6_found wsX6_within := goodIn_r _ [6] (by decide +kernel) (by decide +kernel)
set_option maxRecDepth 20000 in
theorem gX6_found_X6_within : GoodIn wsX6_found (va_wsS RX6 45 yX6_within wsX6_within) := goodIn_app (goodIn_of _ (by decide +kernel)) ggX6_found_X6_within
set_option maxRecDepth 20000 in
theorem ggX6_found_X3_maySeek : GoodIn wsX6_found wsX3_maySeek := goodIn_r _ [10, 4, 5, 6] (by decide +kernel) (by decide +kernel)
set_option maxRecDepth 20000 in
theorem gX6_found_X3_maySeek : GoodIn wsX6_found (va_wsS RX6 162 yX3_maySeek wsX3_maySeek) := goodIn_app (goodIn_of _ (by decide +kernel)) ggX6_found_X3_maySeek
set_option maxRecDepth 20000 in
theorem ggX6_found_X3_standsOut : GoodIn wsX6_found wsX3_standsOut := goodIn_r _ [14, 15, 16, 17, 18, 19, 9, 20, 21, 22, 23, 24, 25, 31, 32, 33] (by decide +kernel) (by decide +kernel)
set_option maxRecDepth 20000 in
theorem gX6_found_X3_standsOut : GoodIn wsX6_found (wsV RX6 166 RX3 yX3_standsOut wsX3_standsOut) := goodIn_app (goodIn_of _ (by decide +kernel)) ggX6_found_X3_standsOut
theorem dX6_found_0 : decode cX6_found 0 = .ok (.iload_n 1, 1) := by decide +kernel
theorem dX6_found_1 : decode cX6_found 1 = .ok (.iconst 0, 1) := by decide +kernel
theorem dX6_found_2 : decode cX6_found 2 = .ok (.aload_n 0, 1) := by decide +kernel
theorem dX6_found_3 : decode cX6_found 3 = .ok (.getfield 32, 3) := by decide +kernel
theorem dX6_found_6 : decode cX6_found 6 = .ok (.getfield 161, 3) := by decide +kernel
theorem dX6_found_9 : decode cX6_found 9 = .ok (.iconst 1, 1) := by decide +kernel
theorem dX6_found_10 : decode cX6_found 10 = .ok (.isub, 1) := by decide +kernel
theorem dX6_found_11 : decode cX6_found 11 = .ok (.invokestatic 45, 3) := by decide +kernel
theorem dX6_found_14 : decode cX6_found 14 = .ok (.ifCond .ne 6, 3) := by decide +kernel
theorem dX6_found_17 : decode cX6_found 17 = .ok (.bipush (-101), 2) := by decide +kernel
theorem dX6_found_19 : decode cX6_found 19 = .ok (.ireturn, 1) := by decide +kernel
theorem dX6_found_20 : decode cX6_found 20 = .ok (.iload_n 2, 1) := by decide +kernel
theorem dX6_found_21 : decode cX6_found 21 = .ok (.iload_n 3, 1) := by decide +kernel
theorem dX6_found_22 : decode cX6_found 22 = .ok (.iload 4, 2) := by decide +kernel
theorem dX6_found_24 : decode cX6_found 24 = .ok (.iload 5, 2) := by decide +kernel
theorem dX6_found_26 : decode cX6_found 26 = .ok (.invokestatic 162, 3) := by decide +kernel
theorem dX6_found_29 : decode cX6_found 29 = .ok (.ifCond .ne 6, 3) := by decide +kernel
theorem dX6_found_32 : decode cX6_found 32 = .ok (.bipush (-102), 2) := by decide +kernel
theorem dX6_found_34 : decode cX6_found 34 = .ok (.ireturn, 1) := by decide +kernel
theorem dX6_found_35 : decode cX6_found 35 = .ok (.aload_n 0, 1) := by decide +kernel
theorem dX6_found_36 : decode cX6_found 36 = .ok (.getfield 32, 3) := by decide +kernel
theorem dX6_found_39 : decode cX6_found 39 = .ok (.iload_n 1, 1) := by decide +kernel
theorem dX6_found_40 : decode cX6_found 40 = .ok (.iload_n 2, 1) := by decide +kernel
theorem dX6_found_41 : decode cX6_found 41 = .ok (.iload_n 3, 1) := by decide +kernel
theorem dX6_found_42 : decode cX6_found 42 = .ok (.iload 4, 2) := by decide +kernel
theorem dX6_found_44 : decode cX6_found 44 = .ok (.iload 5, 2) := by decide +kernel
theorem dX6_found_46 : decode cX6_found 46 = .ok (.invokevirtual 166, 3) := by decide +kernel
theorem dX6_found_49 : decode cX6_found 49 = .ok (.ifCond .eq 7, 3) := by decide +kernel
theorem dX6_found_52 : decode cX6_found 52 = .ok (.iconst 1, 1) := by decide +kernel
theorem dX6_found_53 : decode cX6_found 53 = .ok (.goto 4, 3) := by decide +kernel
theorem dX6_found_56 : decode cX6_found 56 = .ok (.iconst 0, 1) := by decide +kernel
theorem dX6_found_57 : decode cX6_found 57 = .ok (.ireturn, 1) := by decide +kernel
set_option maxRecDepth 20000 in
theorem ggX6_count_X3_maySeek : GoodIn wsX6_count wsX3_maySeek := goodIn_r _ [5, 6, 7, 8] (by decide +kernel) (by decide +kernel)
set_option maxRecDepth 20000 in
theorem gX6_count_X3_maySeek : GoodIn wsX6_count (va_wsS RX6 162 yX3_maySeek wsX3_maySeek) := goodIn_app (goodIn_of _ (by decide +kernel)) ggX6_count_X3_maySeek
set_option maxRecDepth 20000 in
theorem ggX6_count_X3_standingOut : GoodIn wsX6_count wsX3_standingOut := goodIn_r _ [12, 13, 14, 15, 16, 4, 17, 18, 19, 20, 21, 22, 23, 24, 25, 26, 27, 33, 34, 35] (by decide +kernel) (by decide +kernel)
set_option maxRecDepth 20000 in
theorem gX6_count_X3_standingOut : GoodIn wsX6_count (wsV RX6 170 RX3 yX3_standingOut wsX3_standingOut) := goodIn_app (goodIn_of _ (by decide +kernel)) ggX6_count_X3_standingOut
theorem dX6_count_0 : decode cX6_count 0 = .ok (.iload_n 1, 1) := by decide +kernel
theorem dX6_count_1 : decode cX6_count 1 = .ok (.iload_n 2, 1) := by decide +kernel
theorem dX6_count_2 : decode cX6_count 2 = .ok (.iload_n 3, 1) := by decide +kernel
theorem dX6_count_3 : decode cX6_count 3 = .ok (.iload 4, 2) := by decide +kernel
theorem dX6_count_5 : decode cX6_count 5 = .ok (.invokestatic 162, 3) := by decide +kernel
theorem dX6_count_8 : decode cX6_count 8 = .ok (.ifCond .eq 18, 3) := by decide +kernel
theorem dX6_count_11 : decode cX6_count 11 = .ok (.aload_n 0, 1) := by decide +kernel
theorem dX6_count_12 : decode cX6_count 12 = .ok (.getfield 32, 3) := by decide +kernel
theorem dX6_count_15 : decode cX6_count 15 = .ok (.iload_n 1, 1) := by decide +kernel
theorem dX6_count_16 : decode cX6_count 16 = .ok (.iload_n 2, 1) := by decide +kernel
theorem dX6_count_17 : decode cX6_count 17 = .ok (.iload_n 3, 1) := by decide +kernel
theorem dX6_count_18 : decode cX6_count 18 = .ok (.iload 4, 2) := by decide +kernel
theorem dX6_count_20 : decode cX6_count 20 = .ok (.invokevirtual 170, 3) := by decide +kernel
theorem dX6_count_23 : decode cX6_count 23 = .ok (.goto 5, 3) := by decide +kernel
theorem dX6_count_26 : decode cX6_count 26 = .ok (.bipush (-102), 2) := by decide +kernel
theorem dX6_count_28 : decode cX6_count 28 = .ok (.ireturn, 1) := by decide +kernel
set_option maxRecDepth 20000 in
theorem ggX6_share_X0_mayOrder : GoodIn wsX6_share wsX0_mayOrder := goodIn_r _ [5, 6, 7, 8] (by decide +kernel) (by decide +kernel)
set_option maxRecDepth 20000 in
theorem gX6_share_X0_mayOrder : GoodIn wsX6_share (va_wsS RX6 173 yX0_mayOrder wsX0_mayOrder) := goodIn_app (goodIn_of _ (by decide +kernel)) ggX6_share_X0_mayOrder
set_option maxRecDepth 20000 in
theorem ggX6_share_X6_within : GoodIn wsX6_share wsX6_within := goodIn_r _ [8] (by decide +kernel) (by decide +kernel)
set_option maxRecDepth 20000 in
theorem gX6_share_X6_within : GoodIn wsX6_share (va_wsS RX6 45 yX6_within wsX6_within) := goodIn_app (goodIn_of _ (by decide +kernel)) ggX6_share_X6_within
set_option maxRecDepth 20000 in
theorem ggX6_share_X6_isPart : GoodIn wsX6_share wsX6_isPart := goodIn_r _ [12, 9, 6, 7, 8] (by decide +kernel) (by decide +kernel)
set_option maxRecDepth 20000 in
theorem gX6_share_X6_isPart : GoodIn wsX6_share (va_wsS RX6 76 yX6_isPart wsX6_isPart) := goodIn_app (goodIn_of _ (by decide +kernel)) ggX6_share_X6_isPart
set_option maxRecDepth 20000 in
theorem ggX6_share_X0_product : GoodIn wsX6_share wsX0_product := goodIn_r _ [15] (by decide +kernel) (by decide +kernel)
set_option maxRecDepth 20000 in
theorem gX6_share_X0_product : GoodIn wsX6_share (va_wsS RX6 181 yX0_product wsX0_product) := goodIn_app (goodIn_of _ (by decide +kernel)) ggX6_share_X0_product
set_option maxRecDepth 20000 in
theorem ggX6_share_X6_commonDivisor : GoodIn wsX6_share wsX6_commonDivisor := goodIn_r _ [18] (by decide +kernel) (by decide +kernel)
set_option maxRecDepth 20000 in
theorem gX6_share_X6_commonDivisor : GoodIn wsX6_share (va_wsS RX6 185 yX6_commonDivisor wsX6_commonDivisor) := goodIn_app (goodIn_of _ (by decide +kernel)) ggX6_share_X6_commonDivisor
theorem dX6_share_0 : decode cX6_share 0 = .ok (.iload_n 1, 1) := by decide +kernel
theorem dX6_share_1 : decode cX6_share 1 = .ok (.iload_n 2, 1) := by decide +kernel
theorem dX6_share_2 : decode cX6_share 2 = .ok (.invokestatic 173, 3) := by decide +kernel
theorem dX6_share_5 : decode cX6_share 5 = .ok (.ifCond .eq 21, 3) := by decide +kernel
theorem dX6_share_8 : decode cX6_share 8 = .ok (.iload_n 3, 1) := by decide +kernel
theorem dX6_share_9 : decode cX6_share 9 = .ok (.iconst 1, 1) := by decide +kernel
theorem dX6_share_10 : decode cX6_share 10 = .ok (.bipush 40, 2) := by decide +kernel
theorem dX6_share_12 : decode cX6_share 12 = .ok (.invokestatic 45, 3) := by decide +kernel
theorem dX6_share_15 : decode cX6_share 15 = .ok (.ifCond .eq 11, 3) := by decide +kernel
theorem dX6_share_18 : decode cX6_share 18 = .ok (.iload 4, 2) := by decide +kernel
theorem dX6_share_20 : decode cX6_share 20 = .ok (.invokestatic 76, 3) := by decide +kernel
theorem dX6_share_23 : decode cX6_share 23 = .ok (.ifCond .ne 7, 3) := by decide +kernel
theorem dX6_share_26 : decode cX6_share 26 = .ok (.ldc2_w 179, 3) := by decide +kernel
theorem dX6_share_29 : decode cX6_share 29 = .ok (.lreturn, 1) := by decide +kernel
theorem dX6_share_30 : decode cX6_share 30 = .ok (.iload_n 1, 1) := by decide +kernel
theorem dX6_share_31 : decode cX6_share 31 = .ok (.iload_n 2, 1) := by decide +kernel
theorem dX6_share_32 : decode cX6_share 32 = .ok (.iconst 0, 1) := by decide +kernel
theorem dX6_share_33 : decode cX6_share 33 = .ok (.invokestatic 181, 3) := by decide +kernel
theorem dX6_share_36 : decode cX6_share 36 = .ok (.lstore 5, 2) := by decide +kernel
theorem dX6_share_38 : decode cX6_share 38 = .ok (.iload_n 1, 1) := by decide +kernel
theorem dX6_share_39 : decode cX6_share 39 = .ok (.iload_n 2, 1) := by decide +kernel
theorem dX6_share_40 : decode cX6_share 40 = .ok (.iload_n 3, 1) := by decide +kernel
theorem dX6_share_41 : decode cX6_share 41 = .ok (.invokestatic 181, 3) := by decide +kernel
theorem dX6_share_44 : decode cX6_share 44 = .ok (.lstore 7, 2) := by decide +kernel
theorem dX6_share_46 : decode cX6_share 46 = .ok (.lload 5, 2) := by decide +kernel
theorem dX6_share_48 : decode cX6_share 48 = .ok (.lload 7, 2) := by decide +kernel
theorem dX6_share_50 : decode cX6_share 50 = .ok (.invokestatic 185, 3) := by decide +kernel
theorem dX6_share_53 : decode cX6_share 53 = .ok (.lstore 9, 2) := by decide +kernel
theorem dX6_share_55 : decode cX6_share 55 = .ok (.iload 4, 2) := by decide +kernel
theorem dX6_share_57 : decode cX6_share 57 = .ok (.ifCond .ne 8, 3) := by decide +kernel
theorem dX6_share_60 : decode cX6_share 60 = .ok (.lload 5, 2) := by decide +kernel
theorem dX6_share_62 : decode cX6_share 62 = .ok (.goto 5, 3) := by decide +kernel
theorem dX6_share_65 : decode cX6_share 65 = .ok (.lload 7, 2) := by decide +kernel
theorem dX6_share_67 : decode cX6_share 67 = .ok (.lload 9, 2) := by decide +kernel
theorem dX6_share_69 : decode cX6_share 69 = .ok (.ldiv, 1) := by decide +kernel
theorem dX6_share_70 : decode cX6_share 70 = .ok (.lreturn, 1) := by decide +kernel
set_option maxRecDepth 20000 in
theorem ggX6_scale_X0_mayOrder : GoodIn wsX6_scale wsX0_mayOrder := goodIn_r _ [5, 6, 7, 8] (by decide +kernel) (by decide +kernel)
set_option maxRecDepth 20000 in
theorem gX6_scale_X0_mayOrder : GoodIn wsX6_scale (va_wsS RX6 173 yX0_mayOrder wsX0_mayOrder) := goodIn_app (goodIn_of _ (by decide +kernel)) ggX6_scale_X0_mayOrder
set_option maxRecDepth 20000 in
theorem ggX6_scale_X6_within : GoodIn wsX6_scale wsX6_within := goodIn_r _ [8] (by decide +kernel) (by decide +kernel)
set_option maxRecDepth 20000 in
theorem gX6_scale_X6_within : GoodIn wsX6_scale (va_wsS RX6 45 yX6_within wsX6_within) := goodIn_app (goodIn_of _ (by decide +kernel)) ggX6_scale_X6_within
set_option maxRecDepth 20000 in
theorem ggX6_scale_X0_leastScale : GoodIn wsX6_scale wsX0_leastScale := goodIn_r _ [12, 13, 14, 4, 15] (by decide +kernel) (by decide +kernel)
set_option maxRecDepth 20000 in
theorem gX6_scale_X0_leastScale : GoodIn wsX6_scale (va_wsS RX6 190 yX0_leastScale wsX0_leastScale) := goodIn_app (goodIn_of _ (by decide +kernel)) ggX6_scale_X0_leastScale
theorem dX6_scale_0 : decode cX6_scale 0 = .ok (.iload_n 1, 1) := by decide +kernel
theorem dX6_scale_1 : decode cX6_scale 1 = .ok (.iload_n 2, 1) := by decide +kernel
theorem dX6_scale_2 : decode cX6_scale 2 = .ok (.invokestatic 173, 3) := by decide +kernel
theorem dX6_scale_5 : decode cX6_scale 5 = .ok (.ifCond .eq 13, 3) := by decide +kernel
theorem dX6_scale_8 : decode cX6_scale 8 = .ok (.iload_n 3, 1) := by decide +kernel
theorem dX6_scale_9 : decode cX6_scale 9 = .ok (.iconst 1, 1) := by decide +kernel
theorem dX6_scale_10 : decode cX6_scale 10 = .ok (.ldc 189, 2) := by decide +kernel
theorem dX6_scale_12 : decode cX6_scale 12 = .ok (.invokestatic 45, 3) := by decide +kernel
theorem dX6_scale_15 : decode cX6_scale 15 = .ok (.ifCond .ne 6, 3) := by decide +kernel
theorem dX6_scale_18 : decode cX6_scale 18 = .ok (.bipush (-102), 2) := by decide +kernel
theorem dX6_scale_20 : decode cX6_scale 20 = .ok (.ireturn, 1) := by decide +kernel
theorem dX6_scale_21 : decode cX6_scale 21 = .ok (.iload_n 1, 1) := by decide +kernel
theorem dX6_scale_22 : decode cX6_scale 22 = .ok (.iload_n 2, 1) := by decide +kernel
theorem dX6_scale_23 : decode cX6_scale 23 = .ok (.iload_n 3, 1) := by decide +kernel
theorem dX6_scale_24 : decode cX6_scale 24 = .ok (.invokestatic 190, 3) := by decide +kernel
theorem dX6_scale_27 : decode cX6_scale 27 = .ok (.ireturn, 1) := by decide +kernel
theorem dX6_told_0 : decode cX6_told 0 = .ok (.iload_n 1, 1) := by decide +kernel
theorem dX6_told_1 : decode cX6_told 1 = .ok (.tableswitch 60 0 3 #[31, 39, 47, 55], 31) := by decide +kernel
theorem dX6_told_32 : decode cX6_told 32 = .ok (.aload_n 0, 1) := by decide +kernel
theorem dX6_told_33 : decode cX6_told 33 = .ok (.getfield 18, 3) := by decide +kernel
theorem dX6_told_36 : decode cX6_told 36 = .ok (.getfield 108, 3) := by decide +kernel
theorem dX6_told_39 : decode cX6_told 39 = .ok (.ireturn, 1) := by decide +kernel
theorem dX6_told_40 : decode cX6_told 40 = .ok (.aload_n 0, 1) := by decide +kernel
theorem dX6_told_41 : decode cX6_told 41 = .ok (.getfield 25, 3) := by decide +kernel
theorem dX6_told_44 : decode cX6_told 44 = .ok (.getfield 140, 3) := by decide +kernel
theorem dX6_told_47 : decode cX6_told 47 = .ok (.ireturn, 1) := by decide +kernel
theorem dX6_told_48 : decode cX6_told 48 = .ok (.aload_n 0, 1) := by decide +kernel
theorem dX6_told_49 : decode cX6_told 49 = .ok (.getfield 32, 3) := by decide +kernel
theorem dX6_told_52 : decode cX6_told 52 = .ok (.getfield 161, 3) := by decide +kernel
theorem dX6_told_55 : decode cX6_told 55 = .ok (.ireturn, 1) := by decide +kernel
theorem dX6_told_56 : decode cX6_told 56 = .ok (.aload_n 0, 1) := by decide +kernel
theorem dX6_told_57 : decode cX6_told 57 = .ok (.getfield 36, 3) := by decide +kernel
theorem dX6_told_60 : decode cX6_told 60 = .ok (.ireturn, 1) := by decide +kernel
theorem dX6_told_61 : decode cX6_told 61 = .ok (.bipush (-102), 2) := by decide +kernel
theorem dX6_told_63 : decode cX6_told 63 = .ok (.ireturn, 1) := by decide +kernel
set_option maxRecDepth 20000 in
theorem ggX6_digest_X6_mix : GoodIn wsX6_digest wsX6_mix := goodIn_r _ [19, 20] (by decide +kernel) (by decide +kernel)
set_option maxRecDepth 20000 in
theorem gX6_digest_X6_mix : GoodIn wsX6_digest (va_wsS RX6 195 yX6_mix wsX6_mix) := goodIn_app (goodIn_of _ (by decide +kernel)) ggX6_digest_X6_mix
set_option maxRecDepth 20000 in
theorem ggX6_digest_X6_mixAll : GoodIn wsX6_digest wsX6_mixAll := goodIn_r _ [23, 16, 17, 18, 19, 20] (by decide +kernel) (by decide +kernel)
set_option maxRecDepth 20000 in
theorem gX6_digest_X6_mixAll : GoodIn wsX6_digest (va_wsS RX6 198 yX6_mixAll wsX6_mixAll) := goodIn_app (goodIn_of _ (by decide +kernel)) ggX6_digest_X6_mixAll
theorem dX6_digest_0 : decode cX6_digest 0 = .ok (.ldc2_w 193, 3) := by decide +kernel
theorem dX6_digest_3 : decode cX6_digest 3 = .ok (.lstore_n 1, 1) := by decide +kernel
theorem dX6_digest_4 : decode cX6_digest 4 = .ok (.iconst 0, 1) := by decide +kernel
theorem dX6_digest_5 : decode cX6_digest 5 = .ok (.istore_n 3, 1) := by decide +kernel
theorem dX6_digest_6 : decode cX6_digest 6 = .ok (.iload_n 3, 1) := by decide +kernel
theorem dX6_digest_7 : decode cX6_digest 7 = .ok (.bipush 6, 2) := by decide +kernel
theorem dX6_digest_9 : decode cX6_digest 9 = .ok (.if_icmp .ge 45, 3) := by decide +kernel
theorem dX6_digest_12 : decode cX6_digest 12 = .ok (.lload_n 1, 1) := by decide +kernel
theorem dX6_digest_13 : decode cX6_digest 13 = .ok (.aload_n 0, 1) := by decide +kernel
theorem dX6_digest_14 : decode cX6_digest 14 = .ok (.getfield 11, 3) := by decide +kernel
theorem dX6_digest_17 : decode cX6_digest 17 = .ok (.iload_n 3, 1) := by decide +kernel
theorem dX6_digest_18 : decode cX6_digest 18 = .ok (.aaload, 1) := by decide +kernel
theorem dX6_digest_19 : decode cX6_digest 19 = .ok (.getfield 73, 3) := by decide +kernel
theorem dX6_digest_22 : decode cX6_digest 22 = .ok (.i2l, 1) := by decide +kernel
theorem dX6_digest_23 : decode cX6_digest 23 = .ok (.invokestatic 195, 3) := by decide +kernel
theorem dX6_digest_26 : decode cX6_digest 26 = .ok (.aload_n 0, 1) := by decide +kernel
theorem dX6_digest_27 : decode cX6_digest 27 = .ok (.getfield 11, 3) := by decide +kernel
theorem dX6_digest_30 : decode cX6_digest 30 = .ok (.iload_n 3, 1) := by decide +kernel
theorem dX6_digest_31 : decode cX6_digest 31 = .ok (.aaload, 1) := by decide +kernel
theorem dX6_digest_32 : decode cX6_digest 32 = .ok (.getfield 56, 3) := by decide +kernel
theorem dX6_digest_35 : decode cX6_digest 35 = .ok (.aload_n 0, 1) := by decide +kernel
theorem dX6_digest_36 : decode cX6_digest 36 = .ok (.getfield 11, 3) := by decide +kernel
theorem dX6_digest_39 : decode cX6_digest 39 = .ok (.iload_n 3, 1) := by decide +kernel
theorem dX6_digest_40 : decode cX6_digest 40 = .ok (.aaload, 1) := by decide +kernel
theorem dX6_digest_41 : decode cX6_digest 41 = .ok (.getfield 73, 3) := by decide +kernel
theorem dX6_digest_44 : decode cX6_digest 44 = .ok (.invokestatic 198, 3) := by decide +kernel
theorem dX6_digest_47 : decode cX6_digest 47 = .ok (.lstore_n 1, 1) := by decide +kernel
theorem dX6_digest_48 : decode cX6_digest 48 = .ok (.iinc 3 1, 3) := by decide +kernel
theorem dX6_digest_51 : decode cX6_digest 51 = .ok (.goto (-45), 3) := by decide +kernel
theorem dX6_digest_54 : decode cX6_digest 54 = .ok (.lload_n 1, 1) := by decide +kernel
theorem dX6_digest_55 : decode cX6_digest 55 = .ok (.aload_n 0, 1) := by decide +kernel
theorem dX6_digest_56 : decode cX6_digest 56 = .ok (.getfield 18, 3) := by decide +kernel
theorem dX6_digest_59 : decode cX6_digest 59 = .ok (.getfield 108, 3) := by decide +kernel
theorem dX6_digest_62 : decode cX6_digest 62 = .ok (.i2l, 1) := by decide +kernel
theorem dX6_digest_63 : decode cX6_digest 63 = .ok (.invokestatic 195, 3) := by decide +kernel
theorem dX6_digest_66 : decode cX6_digest 66 = .ok (.aload_n 0, 1) := by decide +kernel
theorem dX6_digest_67 : decode cX6_digest 67 = .ok (.getfield 18, 3) := by decide +kernel
theorem dX6_digest_70 : decode cX6_digest 70 = .ok (.getfield 109, 3) := by decide +kernel
theorem dX6_digest_73 : decode cX6_digest 73 = .ok (.aload_n 0, 1) := by decide +kernel
theorem dX6_digest_74 : decode cX6_digest 74 = .ok (.getfield 18, 3) := by decide +kernel
theorem dX6_digest_77 : decode cX6_digest 77 = .ok (.getfield 108, 3) := by decide +kernel
theorem dX6_digest_80 : decode cX6_digest 80 = .ok (.invokestatic 198, 3) := by decide +kernel
theorem dX6_digest_83 : decode cX6_digest 83 = .ok (.lstore_n 1, 1) := by decide +kernel
theorem dX6_digest_84 : decode cX6_digest 84 = .ok (.lload_n 1, 1) := by decide +kernel
theorem dX6_digest_85 : decode cX6_digest 85 = .ok (.aload_n 0, 1) := by decide +kernel
theorem dX6_digest_86 : decode cX6_digest 86 = .ok (.getfield 25, 3) := by decide +kernel
theorem dX6_digest_89 : decode cX6_digest 89 = .ok (.getfield 140, 3) := by decide +kernel
theorem dX6_digest_92 : decode cX6_digest 92 = .ok (.i2l, 1) := by decide +kernel
theorem dX6_digest_93 : decode cX6_digest 93 = .ok (.invokestatic 195, 3) := by decide +kernel
theorem dX6_digest_96 : decode cX6_digest 96 = .ok (.lstore_n 1, 1) := by decide +kernel
theorem dX6_digest_97 : decode cX6_digest 97 = .ok (.iconst 0, 1) := by decide +kernel
theorem dX6_digest_98 : decode cX6_digest 98 = .ok (.istore_n 3, 1) := by decide +kernel
theorem dX6_digest_99 : decode cX6_digest 99 = .ok (.iload_n 3, 1) := by decide +kernel
theorem dX6_digest_100 : decode cX6_digest 100 = .ok (.aload_n 0, 1) := by decide +kernel
theorem dX6_digest_101 : decode cX6_digest 101 = .ok (.getfield 25, 3) := by decide +kernel
theorem dX6_digest_104 : decode cX6_digest 104 = .ok (.getfield 140, 3) := by decide +kernel
theorem dX6_digest_107 : decode cX6_digest 107 = .ok (.if_icmp .ge 37, 3) := by decide +kernel
theorem dX6_digest_110 : decode cX6_digest 110 = .ok (.lload_n 1, 1) := by decide +kernel
theorem dX6_digest_111 : decode cX6_digest 111 = .ok (.aload_n 0, 1) := by decide +kernel
theorem dX6_digest_112 : decode cX6_digest 112 = .ok (.getfield 25, 3) := by decide +kernel
theorem dX6_digest_115 : decode cX6_digest 115 = .ok (.getfield 130, 3) := by decide +kernel
theorem dX6_digest_118 : decode cX6_digest 118 = .ok (.iload_n 3, 1) := by decide +kernel
theorem dX6_digest_119 : decode cX6_digest 119 = .ok (.iaload, 1) := by decide +kernel
theorem dX6_digest_120 : decode cX6_digest 120 = .ok (.i2l, 1) := by decide +kernel
theorem dX6_digest_121 : decode cX6_digest 121 = .ok (.invokestatic 195, 3) := by decide +kernel
theorem dX6_digest_124 : decode cX6_digest 124 = .ok (.aload_n 0, 1) := by decide +kernel
theorem dX6_digest_125 : decode cX6_digest 125 = .ok (.getfield 25, 3) := by decide +kernel
theorem dX6_digest_128 : decode cX6_digest 128 = .ok (.getfield 133, 3) := by decide +kernel
theorem dX6_digest_131 : decode cX6_digest 131 = .ok (.iload_n 3, 1) := by decide +kernel
theorem dX6_digest_132 : decode cX6_digest 132 = .ok (.iaload, 1) := by decide +kernel
theorem dX6_digest_133 : decode cX6_digest 133 = .ok (.i2l, 1) := by decide +kernel
theorem dX6_digest_134 : decode cX6_digest 134 = .ok (.invokestatic 195, 3) := by decide +kernel
theorem dX6_digest_137 : decode cX6_digest 137 = .ok (.lstore_n 1, 1) := by decide +kernel
theorem dX6_digest_138 : decode cX6_digest 138 = .ok (.iinc 3 1, 3) := by decide +kernel
theorem dX6_digest_141 : decode cX6_digest 141 = .ok (.goto (-42), 3) := by decide +kernel
theorem dX6_digest_144 : decode cX6_digest 144 = .ok (.lload_n 1, 1) := by decide +kernel
theorem dX6_digest_145 : decode cX6_digest 145 = .ok (.aload_n 0, 1) := by decide +kernel
theorem dX6_digest_146 : decode cX6_digest 146 = .ok (.getfield 32, 3) := by decide +kernel
theorem dX6_digest_149 : decode cX6_digest 149 = .ok (.getfield 202, 3) := by decide +kernel
theorem dX6_digest_152 : decode cX6_digest 152 = .ok (.aload_n 0, 1) := by decide +kernel
theorem dX6_digest_153 : decode cX6_digest 153 = .ok (.getfield 32, 3) := by decide +kernel
theorem dX6_digest_156 : decode cX6_digest 156 = .ok (.getfield 161, 3) := by decide +kernel
theorem dX6_digest_159 : decode cX6_digest 159 = .ok (.invokestatic 198, 3) := by decide +kernel
theorem dX6_digest_162 : decode cX6_digest 162 = .ok (.lstore_n 1, 1) := by decide +kernel
theorem dX6_digest_163 : decode cX6_digest 163 = .ok (.lload_n 1, 1) := by decide +kernel
theorem dX6_digest_164 : decode cX6_digest 164 = .ok (.aload_n 0, 1) := by decide +kernel
theorem dX6_digest_165 : decode cX6_digest 165 = .ok (.getfield 36, 3) := by decide +kernel
theorem dX6_digest_168 : decode cX6_digest 168 = .ok (.i2l, 1) := by decide +kernel
theorem dX6_digest_169 : decode cX6_digest 169 = .ok (.invokestatic 195, 3) := by decide +kernel
theorem dX6_digest_172 : decode cX6_digest 172 = .ok (.lreturn, 1) := by decide +kernel
theorem dX6_mix_0 : decode cX6_mix 0 = .ok (.ldc2_w 203, 3) := by decide +kernel
theorem dX6_mix_3 : decode cX6_mix 3 = .ok (.lload_n 0, 1) := by decide +kernel
theorem dX6_mix_4 : decode cX6_mix 4 = .ok (.lmul, 1) := by decide +kernel
theorem dX6_mix_5 : decode cX6_mix 5 = .ok (.lload_n 2, 1) := by decide +kernel
theorem dX6_mix_6 : decode cX6_mix 6 = .ok (.ladd, 1) := by decide +kernel
theorem dX6_mix_7 : decode cX6_mix 7 = .ok (.lreturn, 1) := by decide +kernel
set_option maxRecDepth 20000 in
theorem ggX6_mixAll_X6_mix : GoodIn wsX6_mixAll wsX6_mix := goodIn_r _ [4, 5] (by decide +kernel) (by decide +kernel)
set_option maxRecDepth 20000 in
theorem gX6_mixAll_X6_mix : GoodIn wsX6_mixAll (va_wsS RX6 195 yX6_mix wsX6_mix) := goodIn_app (goodIn_of _ (by decide +kernel)) ggX6_mixAll_X6_mix
theorem dX6_mixAll_0 : decode cX6_mixAll 0 = .ok (.lload_n 0, 1) := by decide +kernel
theorem dX6_mixAll_1 : decode cX6_mixAll 1 = .ok (.lstore 4, 2) := by decide +kernel
theorem dX6_mixAll_3 : decode cX6_mixAll 3 = .ok (.iconst 0, 1) := by decide +kernel
theorem dX6_mixAll_4 : decode cX6_mixAll 4 = .ok (.istore 6, 2) := by decide +kernel
theorem dX6_mixAll_6 : decode cX6_mixAll 6 = .ok (.iload 6, 2) := by decide +kernel
theorem dX6_mixAll_8 : decode cX6_mixAll 8 = .ok (.iload_n 3, 1) := by decide +kernel
theorem dX6_mixAll_9 : decode cX6_mixAll 9 = .ok (.if_icmp .ge 21, 3) := by decide +kernel
theorem dX6_mixAll_12 : decode cX6_mixAll 12 = .ok (.lload 4, 2) := by decide +kernel
theorem dX6_mixAll_14 : decode cX6_mixAll 14 = .ok (.aload_n 2, 1) := by decide +kernel
theorem dX6_mixAll_15 : decode cX6_mixAll 15 = .ok (.iload 6, 2) := by decide +kernel
theorem dX6_mixAll_17 : decode cX6_mixAll 17 = .ok (.iaload, 1) := by decide +kernel
theorem dX6_mixAll_18 : decode cX6_mixAll 18 = .ok (.i2l, 1) := by decide +kernel
theorem dX6_mixAll_19 : decode cX6_mixAll 19 = .ok (.invokestatic 195, 3) := by decide +kernel
theorem dX6_mixAll_22 : decode cX6_mixAll 22 = .ok (.lstore 4, 2) := by decide +kernel
theorem dX6_mixAll_24 : decode cX6_mixAll 24 = .ok (.iinc 6 1, 3) := by decide +kernel
theorem dX6_mixAll_27 : decode cX6_mixAll 27 = .ok (.goto (-21), 3) := by decide +kernel
theorem dX6_mixAll_30 : decode cX6_mixAll 30 = .ok (.lload 4, 2) := by decide +kernel
theorem dX6_mixAll_32 : decode cX6_mixAll 32 = .ok (.lreturn, 1) := by decide +kernel
theorem dX6_within_0 : decode cX6_within 0 = .ok (.iload_n 0, 1) := by decide +kernel
theorem dX6_within_1 : decode cX6_within 1 = .ok (.iload_n 1, 1) := by decide +kernel
theorem dX6_within_2 : decode cX6_within 2 = .ok (.if_icmp .lt 12, 3) := by decide +kernel
theorem dX6_within_5 : decode cX6_within 5 = .ok (.iload_n 0, 1) := by decide +kernel
theorem dX6_within_6 : decode cX6_within 6 = .ok (.iload_n 2, 1) := by decide +kernel
theorem dX6_within_7 : decode cX6_within 7 = .ok (.if_icmp .gt 7, 3) := by decide +kernel
theorem dX6_within_10 : decode cX6_within 10 = .ok (.iconst 1, 1) := by decide +kernel
theorem dX6_within_11 : decode cX6_within 11 = .ok (.goto 4, 3) := by decide +kernel
theorem dX6_within_14 : decode cX6_within 14 = .ok (.iconst 0, 1) := by decide +kernel
theorem dX6_within_15 : decode cX6_within 15 = .ok (.ireturn, 1) := by decide +kernel
set_option maxRecDepth 20000 in
theorem ggX6_isSign_X6_within : GoodIn wsX6_isSign wsX6_within := goodIn_r _ [4] (by decide +kernel) (by decide +kernel)
set_option maxRecDepth 20000 in
theorem gX6_isSign_X6_within : GoodIn wsX6_isSign (va_wsS RX6 45 yX6_within wsX6_within) := goodIn_app (goodIn_of _ (by decide +kernel)) ggX6_isSign_X6_within
theorem dX6_isSign_0 : decode cX6_isSign 0 = .ok (.iload_n 0, 1) := by decide +kernel
theorem dX6_isSign_1 : decode cX6_isSign 1 = .ok (.iconst 0, 1) := by decide +kernel
theorem dX6_isSign_2 : decode cX6_isSign 2 = .ok (.iconst 5, 1) := by decide +kernel
theorem dX6_isSign_3 : decode cX6_isSign 3 = .ok (.invokestatic 45, 3) := by decide +kernel
theorem dX6_isSign_6 : decode cX6_isSign 6 = .ok (.ireturn, 1) := by decide +kernel
set_option maxRecDepth 20000 in
theorem ggX6_isPart_X6_within : GoodIn wsX6_isPart wsX6_within := goodIn_r _ [4] (by decide +kernel) (by decide +kernel)
set_option maxRecDepth 20000 in
theorem gX6_isPart_X6_within : GoodIn wsX6_isPart (va_wsS RX6 45 yX6_within wsX6_within) := goodIn_app (goodIn_of _ (by decide +kernel)) ggX6_isPart_X6_within
theorem dX6_isPart_0 : decode cX6_isPart 0 = .ok (.iload_n 0, 1) := by decide +kernel
theorem dX6_isPart_1 : decode cX6_isPart 1 = .ok (.iconst 0, 1) := by decide +kernel
theorem dX6_isPart_2 : decode cX6_isPart 2 = .ok (.iconst 1, 1) := by decide +kernel
theorem dX6_isPart_3 : decode cX6_isPart 3 = .ok (.invokestatic 45, 3) := by decide +kernel
theorem dX6_isPart_6 : decode cX6_isPart 6 = .ok (.ireturn, 1) := by decide +kernel
theorem dX6_partOfTurn_0 : decode cX6_partOfTurn 0 = .ok (.iload_n 0, 1) := by decide +kernel
end
section
theorem dX6_partOfTurn_1 : decode cX6_partOfTurn 1 = .ok (.iload_n 1, 1) := by decide +kernel
theorem dX6_partOfTurn_2 : decode cX6_partOfTurn 2 = .ok (.isub, 1) := by decide +kernel
theorem dX6_partOfTurn_3 : decode cX6_partOfTurn 3 = .ok (.iconst 3, 1) := by decide +kernel
theorem dX6_partOfTurn_4 : decode cX6_partOfTurn 4 = .ok (.iand, 1) := by decide +kernel
theorem dX6_partOfTurn_5 : decode cX6_partOfTurn 5 = .ok (.istore_n 2, 1) := by decide +kernel
theorem dX6_partOfTurn_6 : decode cX6_partOfTurn 6 = .ok (.iload_n 2, 1) := by decide +kernel
theorem dX6_partOfTurn_7 : decode cX6_partOfTurn 7 = .ok (.ifCond .ne 5, 3) := by decide +kernel
theorem dX6_partOfTurn_10 : decode cX6_partOfTurn 10 = .ok (.iconst 1, 1) := by decide +kernel
theorem dX6_partOfTurn_11 : decode cX6_partOfTurn 11 = .ok (.ireturn, 1) := by decide +kernel
theorem dX6_partOfTurn_12 : decode cX6_partOfTurn 12 = .ok (.iload_n 2, 1) := by decide +kernel
theorem dX6_partOfTurn_13 : decode cX6_partOfTurn 13 = .ok (.iconst 2, 1) := by decide +kernel
theorem dX6_partOfTurn_14 : decode cX6_partOfTurn 14 = .ok (.if_icmp .ne 7, 3) := by decide +kernel
theorem dX6_partOfTurn_17 : decode cX6_partOfTurn 17 = .ok (.iconst (-1), 1) := by decide +kernel
theorem dX6_partOfTurn_18 : decode cX6_partOfTurn 18 = .ok (.goto 4, 3) := by decide +kernel
theorem dX6_partOfTurn_21 : decode cX6_partOfTurn 21 = .ok (.iconst 0, 1) := by decide +kernel
theorem dX6_partOfTurn_22 : decode cX6_partOfTurn 22 = .ok (.ireturn, 1) := by decide +kernel
theorem dX6_commonDivisor_0 : decode cX6_commonDivisor 0 = .ok (.lload_n 0, 1) := by decide +kernel
theorem dX6_commonDivisor_1 : decode cX6_commonDivisor 1 = .ok (.lstore 4, 2) := by decide +kernel
theorem dX6_commonDivisor_3 : decode cX6_commonDivisor 3 = .ok (.lload_n 2, 1) := by decide +kernel
theorem dX6_commonDivisor_4 : decode cX6_commonDivisor 4 = .ok (.lstore 6, 2) := by decide +kernel
theorem dX6_commonDivisor_6 : decode cX6_commonDivisor 6 = .ok (.iconst 0, 1) := by decide +kernel
theorem dX6_commonDivisor_7 : decode cX6_commonDivisor 7 = .ok (.istore 8, 2) := by decide +kernel
theorem dX6_commonDivisor_9 : decode cX6_commonDivisor 9 = .ok (.iload 8, 2) := by decide +kernel
theorem dX6_commonDivisor_11 : decode cX6_commonDivisor 11 = .ok (.sipush 1000, 3) := by decide +kernel
theorem dX6_commonDivisor_14 : decode cX6_commonDivisor 14 = .ok (.if_icmp .ge 31, 3) := by decide +kernel
theorem dX6_commonDivisor_17 : decode cX6_commonDivisor 17 = .ok (.lload 6, 2) := by decide +kernel
theorem dX6_commonDivisor_19 : decode cX6_commonDivisor 19 = .ok (.lconst 0, 1) := by decide +kernel
theorem dX6_commonDivisor_20 : decode cX6_commonDivisor 20 = .ok (.lcmp, 1) := by decide +kernel
theorem dX6_commonDivisor_21 : decode cX6_commonDivisor 21 = .ok (.ifCond .eq 24, 3) := by decide +kernel
theorem dX6_commonDivisor_24 : decode cX6_commonDivisor 24 = .ok (.lload 4, 2) := by decide +kernel
theorem dX6_commonDivisor_26 : decode cX6_commonDivisor 26 = .ok (.lload 6, 2) := by decide +kernel
theorem dX6_commonDivisor_28 : decode cX6_commonDivisor 28 = .ok (.lrem, 1) := by decide +kernel
theorem dX6_commonDivisor_29 : decode cX6_commonDivisor 29 = .ok (.lstore 9, 2) := by decide +kernel
theorem dX6_commonDivisor_31 : decode cX6_commonDivisor 31 = .ok (.lload 6, 2) := by decide +kernel
theorem dX6_commonDivisor_33 : decode cX6_commonDivisor 33 = .ok (.lstore 4, 2) := by decide +kernel
theorem dX6_commonDivisor_35 : decode cX6_commonDivisor 35 = .ok (.lload 9, 2) := by decide +kernel
theorem dX6_commonDivisor_37 : decode cX6_commonDivisor 37 = .ok (.lstore 6, 2) := by decide +kernel
theorem dX6_commonDivisor_39 : decode cX6_commonDivisor 39 = .ok (.iinc 8 1, 3) := by decide +kernel
theorem dX6_commonDivisor_42 : decode cX6_commonDivisor 42 = .ok (.goto (-33), 3) := by decide +kernel
theorem dX6_commonDivisor_45 : decode cX6_commonDivisor 45 = .ok (.lload 4, 2) := by decide +kernel
theorem dX6_commonDivisor_47 : decode cX6_commonDivisor 47 = .ok (.lconst 1, 1) := by decide +kernel
theorem dX6_commonDivisor_48 : decode cX6_commonDivisor 48 = .ok (.lcmp, 1) := by decide +kernel
theorem dX6_commonDivisor_49 : decode cX6_commonDivisor 49 = .ok (.ifCond .lt 8, 3) := by decide +kernel
theorem dX6_commonDivisor_52 : decode cX6_commonDivisor 52 = .ok (.lload 4, 2) := by decide +kernel
theorem dX6_commonDivisor_54 : decode cX6_commonDivisor 54 = .ok (.goto 4, 3) := by decide +kernel
theorem dX6_commonDivisor_57 : decode cX6_commonDivisor 57 = .ok (.lconst 1, 1) := by decide +kernel
theorem dX6_commonDivisor_58 : decode cX6_commonDivisor 58 = .ok (.lreturn, 1) := by decide +kernel
theorem dX7_init_0 : decode cX7_init 0 = .ok (.aload_n 0, 1) := by decide +kernel
theorem dX7_init_1 : decode cX7_init 1 = .ok (.invokespecial 1, 3) := by decide +kernel
theorem dX7_init_4 : decode cX7_init 4 = .ok (.aload_n 0, 1) := by decide +kernel
theorem dX7_init_5 : decode cX7_init 5 = .ok (.bipush 6, 2) := by decide +kernel
theorem dX7_init_7 : decode cX7_init 7 = .ok (.newarray .int, 2) := by decide +kernel
theorem dX7_init_9 : decode cX7_init 9 = .ok (.putfield 7, 3) := by decide +kernel
theorem dX7_init_12 : decode cX7_init 12 = .ok (.aload_n 0, 1) := by decide +kernel
theorem dX7_init_13 : decode cX7_init 13 = .ok (.bipush 96, 2) := by decide +kernel
theorem dX7_init_15 : decode cX7_init 15 = .ok (.newarray .int, 2) := by decide +kernel
theorem dX7_init_17 : decode cX7_init 17 = .ok (.putfield 13, 3) := by decide +kernel
theorem dX7_init_20 : decode cX7_init 20 = .ok (.aload_n 0, 1) := by decide +kernel
theorem dX7_init_21 : decode cX7_init 21 = .ok (.iconst 1, 1) := by decide +kernel
theorem dX7_init_22 : decode cX7_init 22 = .ok (.putfield 16, 3) := by decide +kernel
theorem dX7_init_25 : decode cX7_init 25 = .ok (.aload_n 0, 1) := by decide +kernel
theorem dX7_init_26 : decode cX7_init 26 = .ok (.bipush 24, 2) := by decide +kernel
theorem dX7_init_28 : decode cX7_init 28 = .ok (.newarray .int, 2) := by decide +kernel
theorem dX7_init_30 : decode cX7_init 30 = .ok (.putfield 20, 3) := by decide +kernel
theorem dX7_init_33 : decode cX7_init 33 = .ok (.aload_n 0, 1) := by decide +kernel
theorem dX7_init_34 : decode cX7_init 34 = .ok (.iconst 1, 1) := by decide +kernel
theorem dX7_init_35 : decode cX7_init 35 = .ok (.putfield 23, 3) := by decide +kernel
theorem dX7_init_38 : decode cX7_init 38 = .ok (.aload_n 0, 1) := by decide +kernel
theorem dX7_init_39 : decode cX7_init 39 = .ok (.iconst 4, 1) := by decide +kernel
theorem dX7_init_40 : decode cX7_init 40 = .ok (.newarray .int, 2) := by decide +kernel
theorem dX7_init_42 : decode cX7_init 42 = .ok (.putfield 26, 3) := by decide +kernel
theorem dX7_init_45 : decode cX7_init 45 = .ok (.aload_n 0, 1) := by decide +kernel
theorem dX7_init_46 : decode cX7_init 46 = .ok (.iconst 4, 1) := by decide +kernel
theorem dX7_init_47 : decode cX7_init 47 = .ok (.newarray .int, 2) := by decide +kernel
theorem dX7_init_49 : decode cX7_init 49 = .ok (.putfield 29, 3) := by decide +kernel
theorem dX7_init_52 : decode cX7_init 52 = .ok (.aload_n 0, 1) := by decide +kernel
theorem dX7_init_53 : decode cX7_init 53 = .ok (.bipush 64, 2) := by decide +kernel
theorem dX7_init_55 : decode cX7_init 55 = .ok (.newarray .int, 2) := by decide +kernel
theorem dX7_init_57 : decode cX7_init 57 = .ok (.putfield 32, 3) := by decide +kernel
theorem dX7_init_60 : decode cX7_init 60 = .ok (.aload_n 0, 1) := by decide +kernel
theorem dX7_init_61 : decode cX7_init 61 = .ok (.bipush 16, 2) := by decide +kernel
theorem dX7_init_63 : decode cX7_init 63 = .ok (.newarray .int, 2) := by decide +kernel
theorem dX7_init_65 : decode cX7_init 65 = .ok (.putfield 35, 3) := by decide +kernel
theorem dX7_init_68 : decode cX7_init 68 = .ok (.iconst 0, 1) := by decide +kernel
theorem dX7_init_69 : decode cX7_init 69 = .ok (.istore_n 1, 1) := by decide +kernel
theorem dX7_init_70 : decode cX7_init 70 = .ok (.iload_n 1, 1) := by decide +kernel
theorem dX7_init_71 : decode cX7_init 71 = .ok (.bipush 6, 2) := by decide +kernel
theorem dX7_init_73 : decode cX7_init 73 = .ok (.if_icmp .ge 16, 3) := by decide +kernel
theorem dX7_init_76 : decode cX7_init 76 = .ok (.aload_n 0, 1) := by decide +kernel
theorem dX7_init_77 : decode cX7_init 77 = .ok (.getfield 7, 3) := by decide +kernel
theorem dX7_init_80 : decode cX7_init 80 = .ok (.iload_n 1, 1) := by decide +kernel
theorem dX7_init_81 : decode cX7_init 81 = .ok (.iconst 1, 1) := by decide +kernel
theorem dX7_init_82 : decode cX7_init 82 = .ok (.iastore, 1) := by decide +kernel
theorem dX7_init_83 : decode cX7_init 83 = .ok (.iinc 1 1, 3) := by decide +kernel
theorem dX7_init_86 : decode cX7_init 86 = .ok (.goto (-16), 3) := by decide +kernel
theorem dX7_init_89 : decode cX7_init 89 = .ok (.aload_n 0, 1) := by decide +kernel
theorem dX7_init_90 : decode cX7_init 90 = .ok (.getfield 20, 3) := by decide +kernel
theorem dX7_init_93 : decode cX7_init 93 = .ok (.iconst 0, 1) := by decide +kernel
theorem dX7_init_94 : decode cX7_init 94 = .ok (.iconst 1, 1) := by decide +kernel
theorem dX7_init_95 : decode cX7_init 95 = .ok (.iastore, 1) := by decide +kernel
theorem dX7_init_96 : decode cX7_init 96 = .ok (.aload_n 0, 1) := by decide +kernel
theorem dX7_init_97 : decode cX7_init 97 = .ok (.getfield 26, 3) := by decide +kernel
theorem dX7_init_100 : decode cX7_init 100 = .ok (.iconst 0, 1) := by decide +kernel
theorem dX7_init_101 : decode cX7_init 101 = .ok (.iconst 2, 1) := by decide +kernel
theorem dX7_init_102 : decode cX7_init 102 = .ok (.iastore, 1) := by decide +kernel
theorem dX7_init_103 : decode cX7_init 103 = .ok (.aload_n 0, 1) := by decide +kernel
theorem dX7_init_104 : decode cX7_init 104 = .ok (.getfield 29, 3) := by decide +kernel
theorem dX7_init_107 : decode cX7_init 107 = .ok (.iconst 0, 1) := by decide +kernel
theorem dX7_init_108 : decode cX7_init 108 = .ok (.iconst (-1), 1) := by decide +kernel
theorem dX7_init_109 : decode cX7_init 109 = .ok (.iastore, 1) := by decide +kernel
theorem dX7_init_110 : decode cX7_init 110 = .ok (.return_, 1) := by decide +kernel
theorem dX7_in_0 : decode cX7_in 0 = .ok (.iload_n 0, 1) := by decide +kernel
theorem dX7_in_1 : decode cX7_in 1 = .ok (.iload_n 1, 1) := by decide +kernel
theorem dX7_in_2 : decode cX7_in 2 = .ok (.if_icmp .lt 12, 3) := by decide +kernel
theorem dX7_in_5 : decode cX7_in 5 = .ok (.iload_n 0, 1) := by decide +kernel
theorem dX7_in_6 : decode cX7_in 6 = .ok (.iload_n 2, 1) := by decide +kernel
theorem dX7_in_7 : decode cX7_in 7 = .ok (.if_icmp .gt 7, 3) := by decide +kernel
theorem dX7_in_10 : decode cX7_in 10 = .ok (.iconst 1, 1) := by decide +kernel
theorem dX7_in_11 : decode cX7_in 11 = .ok (.goto 4, 3) := by decide +kernel
theorem dX7_in_14 : decode cX7_in 14 = .ok (.iconst 0, 1) := by decide +kernel
theorem dX7_in_15 : decode cX7_in 15 = .ok (.ireturn, 1) := by decide +kernel
set_option maxRecDepth 20000 in
theorem ggX7_isSign_X7_in : GoodIn wsX7_isSign wsX7_in := goodIn_r _ [4] (by decide +kernel) (by decide +kernel)
set_option maxRecDepth 20000 in
theorem gX7_isSign_X7_in : GoodIn wsX7_isSign (va_wsS RX7 38 yX7_in wsX7_in) := goodIn_app (goodIn_of _ (by decide +kernel)) ggX7_isSign_X7_in
theorem dX7_isSign_0 : decode cX7_isSign 0 = .ok (.iload_n 0, 1) := by decide +kernel
theorem dX7_isSign_1 : decode cX7_isSign 1 = .ok (.iconst 0, 1) := by decide +kernel
theorem dX7_isSign_2 : decode cX7_isSign 2 = .ok (.iconst 5, 1) := by decide +kernel
theorem dX7_isSign_3 : decode cX7_isSign 3 = .ok (.invokestatic 38, 3) := by decide +kernel
theorem dX7_isSign_6 : decode cX7_isSign 6 = .ok (.ireturn, 1) := by decide +kernel
set_option maxRecDepth 20000 in
theorem ggX7_size_X7_isSign : GoodIn wsX7_size wsX7_isSign := goodIn_r _ [6, 7, 8, 5, 9] (by decide +kernel) (by decide +kernel)
set_option maxRecDepth 20000 in
theorem gX7_size_X7_isSign : GoodIn wsX7_size (va_wsS RX7 42 yX7_isSign wsX7_isSign) := goodIn_app (goodIn_of _ (by decide +kernel)) ggX7_size_X7_isSign
set_option maxRecDepth 20000 in
theorem ggX7_size_X7_in : GoodIn wsX7_size wsX7_in := goodIn_r _ [9] (by decide +kernel) (by decide +kernel)
set_option maxRecDepth 20000 in
theorem gX7_size_X7_in : GoodIn wsX7_size (va_wsS RX7 38 yX7_in wsX7_in) := goodIn_app (goodIn_of _ (by decide +kernel)) ggX7_size_X7_in
theorem dX7_size_0 : decode cX7_size 0 = .ok (.iload_n 1, 1) := by decide +kernel
theorem dX7_size_1 : decode cX7_size 1 = .ok (.invokestatic 42, 3) := by decide +kernel
theorem dX7_size_4 : decode cX7_size 4 = .ok (.ifCond .ne 6, 3) := by decide +kernel
theorem dX7_size_7 : decode cX7_size 7 = .ok (.bipush (-101), 2) := by decide +kernel
theorem dX7_size_9 : decode cX7_size 9 = .ok (.ireturn, 1) := by decide +kernel
theorem dX7_size_10 : decode cX7_size 10 = .ok (.iload_n 2, 1) := by decide +kernel
theorem dX7_size_11 : decode cX7_size 11 = .ok (.iconst 1, 1) := by decide +kernel
theorem dX7_size_12 : decode cX7_size 12 = .ok (.bipush 16, 2) := by decide +kernel
theorem dX7_size_14 : decode cX7_size 14 = .ok (.invokestatic 38, 3) := by decide +kernel
theorem dX7_size_17 : decode cX7_size 17 = .ok (.ifCond .ne 6, 3) := by decide +kernel
theorem dX7_size_20 : decode cX7_size 20 = .ok (.bipush (-102), 2) := by decide +kernel
theorem dX7_size_22 : decode cX7_size 22 = .ok (.ireturn, 1) := by decide +kernel
theorem dX7_size_23 : decode cX7_size 23 = .ok (.aload_n 0, 1) := by decide +kernel
theorem dX7_size_24 : decode cX7_size 24 = .ok (.getfield 7, 3) := by decide +kernel
theorem dX7_size_27 : decode cX7_size 27 = .ok (.iload_n 1, 1) := by decide +kernel
theorem dX7_size_28 : decode cX7_size 28 = .ok (.iload_n 2, 1) := by decide +kernel
theorem dX7_size_29 : decode cX7_size 29 = .ok (.iastore, 1) := by decide +kernel
theorem dX7_size_30 : decode cX7_size 30 = .ok (.iconst 0, 1) := by decide +kernel
theorem dX7_size_31 : decode cX7_size 31 = .ok (.istore_n 3, 1) := by decide +kernel
theorem dX7_size_32 : decode cX7_size 32 = .ok (.iload_n 3, 1) := by decide +kernel
theorem dX7_size_33 : decode cX7_size 33 = .ok (.bipush 16, 2) := by decide +kernel
theorem dX7_size_35 : decode cX7_size 35 = .ok (.if_icmp .ge 21, 3) := by decide +kernel
theorem dX7_size_38 : decode cX7_size 38 = .ok (.aload_n 0, 1) := by decide +kernel
theorem dX7_size_39 : decode cX7_size 39 = .ok (.getfield 13, 3) := by decide +kernel
theorem dX7_size_42 : decode cX7_size 42 = .ok (.bipush 16, 2) := by decide +kernel
theorem dX7_size_44 : decode cX7_size 44 = .ok (.iload_n 1, 1) := by decide +kernel
theorem dX7_size_45 : decode cX7_size 45 = .ok (.imul, 1) := by decide +kernel
theorem dX7_size_46 : decode cX7_size 46 = .ok (.iload_n 3, 1) := by decide +kernel
theorem dX7_size_47 : decode cX7_size 47 = .ok (.iadd, 1) := by decide +kernel
theorem dX7_size_48 : decode cX7_size 48 = .ok (.iconst 0, 1) := by decide +kernel
theorem dX7_size_49 : decode cX7_size 49 = .ok (.iastore, 1) := by decide +kernel
theorem dX7_size_50 : decode cX7_size 50 = .ok (.iinc 3 1, 3) := by decide +kernel
theorem dX7_size_53 : decode cX7_size 53 = .ok (.goto (-21), 3) := by decide +kernel
theorem dX7_size_56 : decode cX7_size 56 = .ok (.iload_n 2, 1) := by decide +kernel
theorem dX7_size_57 : decode cX7_size 57 = .ok (.ireturn, 1) := by decide +kernel
set_option maxRecDepth 20000 in
theorem ggX7_turn_X7_isSign : GoodIn wsX7_turn wsX7_isSign := goodIn_r _ [6, 7, 8, 5, 9] (by decide +kernel) (by decide +kernel)
set_option maxRecDepth 20000 in
theorem gX7_turn_X7_isSign : GoodIn wsX7_turn (va_wsS RX7 42 yX7_isSign wsX7_isSign) := goodIn_app (goodIn_of _ (by decide +kernel)) ggX7_turn_X7_isSign
set_option maxRecDepth 20000 in
theorem ggX7_turn_X7_in : GoodIn wsX7_turn wsX7_in := goodIn_r _ [9] (by decide +kernel) (by decide +kernel)
set_option maxRecDepth 20000 in
theorem gX7_turn_X7_in : GoodIn wsX7_turn (va_wsS RX7 38 yX7_in wsX7_in) := goodIn_app (goodIn_of _ (by decide +kernel)) ggX7_turn_X7_in
theorem dX7_turn_0 : decode cX7_turn 0 = .ok (.iload_n 1, 1) := by decide +kernel
theorem dX7_turn_1 : decode cX7_turn 1 = .ok (.invokestatic 42, 3) := by decide +kernel
theorem dX7_turn_4 : decode cX7_turn 4 = .ok (.ifCond .eq 19, 3) := by decide +kernel
theorem dX7_turn_7 : decode cX7_turn 7 = .ok (.iload_n 2, 1) := by decide +kernel
theorem dX7_turn_8 : decode cX7_turn 8 = .ok (.iconst 0, 1) := by decide +kernel
theorem dX7_turn_9 : decode cX7_turn 9 = .ok (.aload_n 0, 1) := by decide +kernel
theorem dX7_turn_10 : decode cX7_turn 10 = .ok (.getfield 7, 3) := by decide +kernel
theorem dX7_turn_13 : decode cX7_turn 13 = .ok (.iload_n 1, 1) := by decide +kernel
theorem dX7_turn_14 : decode cX7_turn 14 = .ok (.iaload, 1) := by decide +kernel
theorem dX7_turn_15 : decode cX7_turn 15 = .ok (.iconst 1, 1) := by decide +kernel
theorem dX7_turn_16 : decode cX7_turn 16 = .ok (.isub, 1) := by decide +kernel
theorem dX7_turn_17 : decode cX7_turn 17 = .ok (.invokestatic 38, 3) := by decide +kernel
theorem dX7_turn_20 : decode cX7_turn 20 = .ok (.ifCond .ne 6, 3) := by decide +kernel
theorem dX7_turn_23 : decode cX7_turn 23 = .ok (.bipush (-101), 2) := by decide +kernel
theorem dX7_turn_25 : decode cX7_turn 25 = .ok (.ireturn, 1) := by decide +kernel
theorem dX7_turn_26 : decode cX7_turn 26 = .ok (.iload_n 3, 1) := by decide +kernel
theorem dX7_turn_27 : decode cX7_turn 27 = .ok (.iconst 0, 1) := by decide +kernel
theorem dX7_turn_28 : decode cX7_turn 28 = .ok (.iconst 3, 1) := by decide +kernel
theorem dX7_turn_29 : decode cX7_turn 29 = .ok (.invokestatic 38, 3) := by decide +kernel
theorem dX7_turn_32 : decode cX7_turn 32 = .ok (.ifCond .ne 6, 3) := by decide +kernel
theorem dX7_turn_35 : decode cX7_turn 35 = .ok (.bipush (-102), 2) := by decide +kernel
theorem dX7_turn_37 : decode cX7_turn 37 = .ok (.ireturn, 1) := by decide +kernel
theorem dX7_turn_38 : decode cX7_turn 38 = .ok (.aload_n 0, 1) := by decide +kernel
theorem dX7_turn_39 : decode cX7_turn 39 = .ok (.getfield 13, 3) := by decide +kernel
theorem dX7_turn_42 : decode cX7_turn 42 = .ok (.bipush 16, 2) := by decide +kernel
theorem dX7_turn_44 : decode cX7_turn 44 = .ok (.iload_n 1, 1) := by decide +kernel
theorem dX7_turn_45 : decode cX7_turn 45 = .ok (.imul, 1) := by decide +kernel
theorem dX7_turn_46 : decode cX7_turn 46 = .ok (.iload_n 2, 1) := by decide +kernel
theorem dX7_turn_47 : decode cX7_turn 47 = .ok (.iadd, 1) := by decide +kernel
theorem dX7_turn_48 : decode cX7_turn 48 = .ok (.iaload, 1) := by decide +kernel
theorem dX7_turn_49 : decode cX7_turn 49 = .ok (.istore 4, 2) := by decide +kernel
theorem dX7_turn_51 : decode cX7_turn 51 = .ok (.aload_n 0, 1) := by decide +kernel
theorem dX7_turn_52 : decode cX7_turn 52 = .ok (.getfield 13, 3) := by decide +kernel
theorem dX7_turn_55 : decode cX7_turn 55 = .ok (.bipush 16, 2) := by decide +kernel
theorem dX7_turn_57 : decode cX7_turn 57 = .ok (.iload_n 1, 1) := by decide +kernel
theorem dX7_turn_58 : decode cX7_turn 58 = .ok (.imul, 1) := by decide +kernel
theorem dX7_turn_59 : decode cX7_turn 59 = .ok (.iload_n 2, 1) := by decide +kernel
theorem dX7_turn_60 : decode cX7_turn 60 = .ok (.iadd, 1) := by decide +kernel
theorem dX7_turn_61 : decode cX7_turn 61 = .ok (.iload_n 3, 1) := by decide +kernel
theorem dX7_turn_62 : decode cX7_turn 62 = .ok (.iastore, 1) := by decide +kernel
theorem dX7_turn_63 : decode cX7_turn 63 = .ok (.iload 4, 2) := by decide +kernel
theorem dX7_turn_65 : decode cX7_turn 65 = .ok (.ireturn, 1) := by decide +kernel
set_option maxRecDepth 20000 in
theorem ggX7_turned_X7_isSign : GoodIn wsX7_turned wsX7_isSign := goodIn_r _ [6, 7, 8, 5, 9] (by decide +kernel) (by decide +kernel)
set_option maxRecDepth 20000 in
theorem gX7_turned_X7_isSign : GoodIn wsX7_turned (va_wsS RX7 42 yX7_isSign wsX7_isSign) := goodIn_app (goodIn_of _ (by decide +kernel)) ggX7_turned_X7_isSign
set_option maxRecDepth 20000 in
theorem ggX7_turned_X7_in : GoodIn wsX7_turned wsX7_in := goodIn_r _ [9] (by decide +kernel) (by decide +kernel)
set_option maxRecDepth 20000 in
theorem gX7_turned_X7_in : GoodIn wsX7_turned (va_wsS RX7 38 yX7_in wsX7_in) := goodIn_app (goodIn_of _ (by decide +kernel)) ggX7_turned_X7_in
theorem dX7_turned_0 : decode cX7_turned 0 = .ok (.iload_n 1, 1) := by decide +kernel
theorem dX7_turned_1 : decode cX7_turned 1 = .ok (.invokestatic 42, 3) := by decide +kernel
theorem dX7_turned_4 : decode cX7_turned 4 = .ok (.ifCond .ne 6, 3) := by decide +kernel
theorem dX7_turned_7 : decode cX7_turned 7 = .ok (.bipush (-101), 2) := by decide +kernel
theorem dX7_turned_9 : decode cX7_turned 9 = .ok (.ireturn, 1) := by decide +kernel
theorem dX7_turned_10 : decode cX7_turned 10 = .ok (.iload_n 2, 1) := by decide +kernel
theorem dX7_turned_11 : decode cX7_turned 11 = .ok (.iconst 0, 1) := by decide +kernel
theorem dX7_turned_12 : decode cX7_turned 12 = .ok (.aload_n 0, 1) := by decide +kernel
theorem dX7_turned_13 : decode cX7_turned 13 = .ok (.getfield 7, 3) := by decide +kernel
theorem dX7_turned_16 : decode cX7_turned 16 = .ok (.iload_n 1, 1) := by decide +kernel
theorem dX7_turned_17 : decode cX7_turned 17 = .ok (.iaload, 1) := by decide +kernel
theorem dX7_turned_18 : decode cX7_turned 18 = .ok (.iconst 1, 1) := by decide +kernel
theorem dX7_turned_19 : decode cX7_turned 19 = .ok (.isub, 1) := by decide +kernel
theorem dX7_turned_20 : decode cX7_turned 20 = .ok (.invokestatic 38, 3) := by decide +kernel
theorem dX7_turned_23 : decode cX7_turned 23 = .ok (.ifCond .eq 17, 3) := by decide +kernel
theorem dX7_turned_26 : decode cX7_turned 26 = .ok (.aload_n 0, 1) := by decide +kernel
theorem dX7_turned_27 : decode cX7_turned 27 = .ok (.getfield 13, 3) := by decide +kernel
theorem dX7_turned_30 : decode cX7_turned 30 = .ok (.bipush 16, 2) := by decide +kernel
theorem dX7_turned_32 : decode cX7_turned 32 = .ok (.iload_n 1, 1) := by decide +kernel
theorem dX7_turned_33 : decode cX7_turned 33 = .ok (.imul, 1) := by decide +kernel
theorem dX7_turned_34 : decode cX7_turned 34 = .ok (.iload_n 2, 1) := by decide +kernel
theorem dX7_turned_35 : decode cX7_turned 35 = .ok (.iadd, 1) := by decide +kernel
theorem dX7_turned_36 : decode cX7_turned 36 = .ok (.iaload, 1) := by decide +kernel
theorem dX7_turned_37 : decode cX7_turned 37 = .ok (.goto 4, 3) := by decide +kernel
theorem dX7_turned_40 : decode cX7_turned 40 = .ok (.iconst (-1), 1) := by decide +kernel
theorem dX7_turned_41 : decode cX7_turned 41 = .ok (.ireturn, 1) := by decide +kernel
set_option maxRecDepth 20000 in
theorem ggX7_made_X7_isSign : GoodIn wsX7_made wsX7_isSign := goodIn_r _ [7, 8, 9, 6, 10] (by decide +kernel) (by decide +kernel)
set_option maxRecDepth 20000 in
theorem gX7_made_X7_isSign : GoodIn wsX7_made (va_wsS RX7 42 yX7_isSign wsX7_isSign) := goodIn_app (goodIn_of _ (by decide +kernel)) ggX7_made_X7_isSign
set_option maxRecDepth 20000 in
theorem ggX7_made_X7_in : GoodIn wsX7_made wsX7_in := goodIn_r _ [10] (by decide +kernel) (by decide +kernel)
set_option maxRecDepth 20000 in
theorem gX7_made_X7_in : GoodIn wsX7_made (va_wsS RX7 38 yX7_in wsX7_in) := goodIn_app (goodIn_of _ (by decide +kernel)) ggX7_made_X7_in
theorem dX7_made_0 : decode cX7_made 0 = .ok (.iload_n 2, 1) := by decide +kernel
theorem dX7_made_1 : decode cX7_made 1 = .ok (.invokestatic 42, 3) := by decide +kernel
theorem dX7_made_4 : decode cX7_made 4 = .ok (.ifCond .eq 10, 3) := by decide +kernel
theorem dX7_made_7 : decode cX7_made 7 = .ok (.iload_n 1, 1) := by decide +kernel
theorem dX7_made_8 : decode cX7_made 8 = .ok (.invokestatic 42, 3) := by decide +kernel
theorem dX7_made_11 : decode cX7_made 11 = .ok (.ifCond .ne 6, 3) := by decide +kernel
theorem dX7_made_14 : decode cX7_made 14 = .ok (.bipush (-101), 2) := by decide +kernel
theorem dX7_made_16 : decode cX7_made 16 = .ok (.ireturn, 1) := by decide +kernel
theorem dX7_made_17 : decode cX7_made 17 = .ok (.iload_n 3, 1) := by decide +kernel
theorem dX7_made_18 : decode cX7_made 18 = .ok (.iconst 0, 1) := by decide +kernel
theorem dX7_made_19 : decode cX7_made 19 = .ok (.iconst 2, 1) := by decide +kernel
theorem dX7_made_20 : decode cX7_made 20 = .ok (.invokestatic 38, 3) := by decide +kernel
theorem dX7_made_23 : decode cX7_made 23 = .ok (.ifCond .ne 6, 3) := by decide +kernel
theorem dX7_made_26 : decode cX7_made 26 = .ok (.bipush (-102), 2) := by decide +kernel
theorem dX7_made_28 : decode cX7_made 28 = .ok (.ireturn, 1) := by decide +kernel
theorem dX7_made_29 : decode cX7_made 29 = .ok (.aload_n 0, 1) := by decide +kernel
theorem dX7_made_30 : decode cX7_made 30 = .ok (.getfield 7, 3) := by decide +kernel
theorem dX7_made_33 : decode cX7_made 33 = .ok (.iload_n 2, 1) := by decide +kernel
theorem dX7_made_34 : decode cX7_made 34 = .ok (.iaload, 1) := by decide +kernel
theorem dX7_made_35 : decode cX7_made 35 = .ok (.istore 4, 2) := by decide +kernel
theorem dX7_made_37 : decode cX7_made 37 = .ok (.iconst 0, 1) := by decide +kernel
theorem dX7_made_38 : decode cX7_made 38 = .ok (.istore 5, 2) := by decide +kernel
theorem dX7_made_40 : decode cX7_made 40 = .ok (.iload 5, 2) := by decide +kernel
theorem dX7_made_42 : decode cX7_made 42 = .ok (.iload 4, 2) := by decide +kernel
theorem dX7_made_44 : decode cX7_made 44 = .ok (.if_icmp .ge 73, 3) := by decide +kernel
theorem dX7_made_47 : decode cX7_made 47 = .ok (.aload_n 0, 1) := by decide +kernel
theorem dX7_made_48 : decode cX7_made 48 = .ok (.getfield 13, 3) := by decide +kernel
theorem dX7_made_51 : decode cX7_made 51 = .ok (.bipush 16, 2) := by decide +kernel
theorem dX7_made_53 : decode cX7_made 53 = .ok (.iload_n 2, 1) := by decide +kernel
theorem dX7_made_54 : decode cX7_made 54 = .ok (.imul, 1) := by decide +kernel
theorem dX7_made_55 : decode cX7_made 55 = .ok (.iload_n 3, 1) := by decide +kernel
theorem dX7_made_56 : decode cX7_made 56 = .ok (.ifCond .ne 13, 3) := by decide +kernel
theorem dX7_made_59 : decode cX7_made 59 = .ok (.iload 4, 2) := by decide +kernel
theorem dX7_made_61 : decode cX7_made 61 = .ok (.iconst 1, 1) := by decide +kernel
theorem dX7_made_62 : decode cX7_made 62 = .ok (.isub, 1) := by decide +kernel
theorem dX7_made_63 : decode cX7_made 63 = .ok (.iload 5, 2) := by decide +kernel
theorem dX7_made_65 : decode cX7_made 65 = .ok (.isub, 1) := by decide +kernel
theorem dX7_made_66 : decode cX7_made 66 = .ok (.goto 5, 3) := by decide +kernel
theorem dX7_made_69 : decode cX7_made 69 = .ok (.iload 5, 2) := by decide +kernel
theorem dX7_made_71 : decode cX7_made 71 = .ok (.iadd, 1) := by decide +kernel
theorem dX7_made_72 : decode cX7_made 72 = .ok (.iaload, 1) := by decide +kernel
theorem dX7_made_73 : decode cX7_made 73 = .ok (.istore 6, 2) := by decide +kernel
theorem dX7_made_75 : decode cX7_made 75 = .ok (.aload_n 0, 1) := by decide +kernel
theorem dX7_made_76 : decode cX7_made 76 = .ok (.getfield 35, 3) := by decide +kernel
theorem dX7_made_79 : decode cX7_made 79 = .ok (.iload 5, 2) := by decide +kernel
theorem dX7_made_81 : decode cX7_made 81 = .ok (.iload_n 3, 1) := by decide +kernel
theorem dX7_made_82 : decode cX7_made 82 = .ok (.ifCond .ne 8, 3) := by decide +kernel
theorem dX7_made_85 : decode cX7_made 85 = .ok (.iload 6, 2) := by decide +kernel
theorem dX7_made_87 : decode cX7_made 87 = .ok (.goto 23, 3) := by decide +kernel
theorem dX7_made_90 : decode cX7_made 90 = .ok (.iload_n 3, 1) := by decide +kernel
theorem dX7_made_91 : decode cX7_made 91 = .ok (.iconst 1, 1) := by decide +kernel
theorem dX7_made_92 : decode cX7_made 92 = .ok (.if_icmp .ne 12, 3) := by decide +kernel
theorem dX7_made_95 : decode cX7_made 95 = .ok (.iconst 4, 1) := by decide +kernel
theorem dX7_made_96 : decode cX7_made 96 = .ok (.iload 6, 2) := by decide +kernel
theorem dX7_made_98 : decode cX7_made 98 = .ok (.isub, 1) := by decide +kernel
theorem dX7_made_99 : decode cX7_made 99 = .ok (.iconst 4, 1) := by decide +kernel
theorem dX7_made_100 : decode cX7_made 100 = .ok (.irem, 1) := by decide +kernel
theorem dX7_made_101 : decode cX7_made 101 = .ok (.goto 9, 3) := by decide +kernel
theorem dX7_made_104 : decode cX7_made 104 = .ok (.iload 6, 2) := by decide +kernel
theorem dX7_made_106 : decode cX7_made 106 = .ok (.iconst 1, 1) := by decide +kernel
theorem dX7_made_107 : decode cX7_made 107 = .ok (.iadd, 1) := by decide +kernel
theorem dX7_made_108 : decode cX7_made 108 = .ok (.iconst 4, 1) := by decide +kernel
theorem dX7_made_109 : decode cX7_made 109 = .ok (.irem, 1) := by decide +kernel
theorem dX7_made_110 : decode cX7_made 110 = .ok (.iastore, 1) := by decide +kernel
theorem dX7_made_111 : decode cX7_made 111 = .ok (.iinc 5 1, 3) := by decide +kernel
theorem dX7_made_114 : decode cX7_made 114 = .ok (.goto (-74), 3) := by decide +kernel
theorem dX7_made_117 : decode cX7_made 117 = .ok (.aload_n 0, 1) := by decide +kernel
theorem dX7_made_118 : decode cX7_made 118 = .ok (.getfield 7, 3) := by decide +kernel
theorem dX7_made_121 : decode cX7_made 121 = .ok (.iload_n 1, 1) := by decide +kernel
theorem dX7_made_122 : decode cX7_made 122 = .ok (.iload 4, 2) := by decide +kernel
theorem dX7_made_124 : decode cX7_made 124 = .ok (.iastore, 1) := by decide +kernel
theorem dX7_made_125 : decode cX7_made 125 = .ok (.iconst 0, 1) := by decide +kernel
theorem dX7_made_126 : decode cX7_made 126 = .ok (.istore 5, 2) := by decide +kernel
theorem dX7_made_128 : decode cX7_made 128 = .ok (.iload 5, 2) := by decide +kernel
theorem dX7_made_130 : decode cX7_made 130 = .ok (.bipush 16, 2) := by decide +kernel
theorem dX7_made_132 : decode cX7_made 132 = .ok (.if_icmp .ge 39, 3) := by decide +kernel
theorem dX7_made_135 : decode cX7_made 135 = .ok (.aload_n 0, 1) := by decide +kernel
theorem dX7_made_136 : decode cX7_made 136 = .ok (.getfield 13, 3) := by decide +kernel
theorem dX7_made_139 : decode cX7_made 139 = .ok (.bipush 16, 2) := by decide +kernel
theorem dX7_made_141 : decode cX7_made 141 = .ok (.iload_n 1, 1) := by decide +kernel
theorem dX7_made_142 : decode cX7_made 142 = .ok (.imul, 1) := by decide +kernel
theorem dX7_made_143 : decode cX7_made 143 = .ok (.iload 5, 2) := by decide +kernel
theorem dX7_made_145 : decode cX7_made 145 = .ok (.iadd, 1) := by decide +kernel
theorem dX7_made_146 : decode cX7_made 146 = .ok (.iload 5, 2) := by decide +kernel
theorem dX7_made_148 : decode cX7_made 148 = .ok (.iload 4, 2) := by decide +kernel
theorem dX7_made_150 : decode cX7_made 150 = .ok (.if_icmp .ge 13, 3) := by decide +kernel
theorem dX7_made_153 : decode cX7_made 153 = .ok (.aload_n 0, 1) := by decide +kernel
theorem dX7_made_154 : decode cX7_made 154 = .ok (.getfield 35, 3) := by decide +kernel
theorem dX7_made_157 : decode cX7_made 157 = .ok (.iload 5, 2) := by decide +kernel
theorem dX7_made_159 : decode cX7_made 159 = .ok (.iaload, 1) := by decide +kernel
theorem dX7_made_160 : decode cX7_made 160 = .ok (.goto 4, 3) := by decide +kernel
theorem dX7_made_163 : decode cX7_made 163 = .ok (.iconst 0, 1) := by decide +kernel
theorem dX7_made_164 : decode cX7_made 164 = .ok (.iastore, 1) := by decide +kernel
theorem dX7_made_165 : decode cX7_made 165 = .ok (.iinc 5 1, 3) := by decide +kernel
theorem dX7_made_168 : decode cX7_made 168 = .ok (.goto (-40), 3) := by decide +kernel
theorem dX7_made_171 : decode cX7_made 171 = .ok (.iload 4, 2) := by decide +kernel
theorem dX7_made_173 : decode cX7_made 173 = .ok (.ireturn, 1) := by decide +kernel
theorem dX7_add_0 : decode cX7_add 0 = .ok (.aload_n 0, 1) := by decide +kernel
theorem dX7_add_1 : decode cX7_add 1 = .ok (.dup, 1) := by decide +kernel
theorem dX7_add_2 : decode cX7_add 2 = .ok (.getfield 46, 3) := by decide +kernel
theorem dX7_add_5 : decode cX7_add 5 = .ok (.iload_n 1, 1) := by decide +kernel
theorem dX7_add_6 : decode cX7_add 6 = .ok (.ifCond .ne 7, 3) := by decide +kernel
theorem dX7_add_9 : decode cX7_add 9 = .ok (.iload_n 2, 1) := by decide +kernel
theorem dX7_add_10 : decode cX7_add 10 = .ok (.goto 14, 3) := by decide +kernel
theorem dX7_add_13 : decode cX7_add 13 = .ok (.iload_n 1, 1) := by decide +kernel
theorem dX7_add_14 : decode cX7_add 14 = .ok (.iconst 2, 1) := by decide +kernel
theorem dX7_add_15 : decode cX7_add 15 = .ok (.if_icmp .ne 8, 3) := by decide +kernel
theorem dX7_add_18 : decode cX7_add 18 = .ok (.iload_n 2, 1) := by decide +kernel
theorem dX7_add_19 : decode cX7_add 19 = .ok (.ineg, 1) := by decide +kernel
theorem dX7_add_20 : decode cX7_add 20 = .ok (.goto 4, 3) := by decide +kernel
theorem dX7_add_23 : decode cX7_add 23 = .ok (.iconst 0, 1) := by decide +kernel
theorem dX7_add_24 : decode cX7_add 24 = .ok (.iadd, 1) := by decide +kernel
theorem dX7_add_25 : decode cX7_add 25 = .ok (.putfield 46, 3) := by decide +kernel
theorem dX7_add_28 : decode cX7_add 28 = .ok (.aload_n 0, 1) := by decide +kernel
theorem dX7_add_29 : decode cX7_add 29 = .ok (.dup, 1) := by decide +kernel
theorem dX7_add_30 : decode cX7_add 30 = .ok (.getfield 49, 3) := by decide +kernel
theorem dX7_add_33 : decode cX7_add 33 = .ok (.iload_n 1, 1) := by decide +kernel
theorem dX7_add_34 : decode cX7_add 34 = .ok (.iconst 1, 1) := by decide +kernel
theorem dX7_add_35 : decode cX7_add 35 = .ok (.if_icmp .ne 7, 3) := by decide +kernel
theorem dX7_add_38 : decode cX7_add 38 = .ok (.iload_n 2, 1) := by decide +kernel
theorem dX7_add_39 : decode cX7_add 39 = .ok (.goto 14, 3) := by decide +kernel
theorem dX7_add_42 : decode cX7_add 42 = .ok (.iload_n 1, 1) := by decide +kernel
theorem dX7_add_43 : decode cX7_add 43 = .ok (.iconst 3, 1) := by decide +kernel
theorem dX7_add_44 : decode cX7_add 44 = .ok (.if_icmp .ne 8, 3) := by decide +kernel
theorem dX7_add_47 : decode cX7_add 47 = .ok (.iload_n 2, 1) := by decide +kernel
theorem dX7_add_48 : decode cX7_add 48 = .ok (.ineg, 1) := by decide +kernel
theorem dX7_add_49 : decode cX7_add 49 = .ok (.goto 4, 3) := by decide +kernel
theorem dX7_add_52 : decode cX7_add 52 = .ok (.iconst 0, 1) := by decide +kernel
theorem dX7_add_53 : decode cX7_add 53 = .ok (.iadd, 1) := by decide +kernel
theorem dX7_add_54 : decode cX7_add 54 = .ok (.putfield 49, 3) := by decide +kernel
theorem dX7_add_57 : decode cX7_add 57 = .ok (.return_, 1) := by decide +kernel
set_option maxRecDepth 20000 in
theorem ggX7_looks_X7_in : GoodIn wsX7_looks wsX7_in := goodIn_r _ [8] (by decide +kernel) (by decide +kernel)
set_option maxRecDepth 20000 in
theorem gX7_looks_X7_in : GoodIn wsX7_looks (va_wsS RX7 38 yX7_in wsX7_in) := goodIn_app (goodIn_of _ (by decide +kernel)) ggX7_looks_X7_in
set_option maxRecDepth 20000 in
theorem ggX7_looks_X7_add : GoodIn wsX7_looks wsX7_add := goodIn_r _ [12, 1, 2, 13, 14, 15, 16, 17, 18, 19, 20, 21, 22, 23, 24, 25, 26, 27, 28] (by decide +kernel) (by decide +kernel)
set_option maxRecDepth 20000 in
theorem gX7_looks_X7_add : GoodIn wsX7_looks (wsV RX7 52 RX7 yX7_add wsX7_add) := goodIn_app (goodIn_of _ (by decide +kernel)) ggX7_looks_X7_add
theorem dX7_looks_0 : decode cX7_looks 0 = .ok (.aload_n 0, 1) := by decide +kernel
theorem dX7_looks_1 : decode cX7_looks 1 = .ok (.iconst 0, 1) := by decide +kernel
theorem dX7_looks_2 : decode cX7_looks 2 = .ok (.putfield 46, 3) := by decide +kernel
theorem dX7_looks_5 : decode cX7_looks 5 = .ok (.aload_n 0, 1) := by decide +kernel
theorem dX7_looks_6 : decode cX7_looks 6 = .ok (.iconst 0, 1) := by decide +kernel
theorem dX7_looks_7 : decode cX7_looks 7 = .ok (.putfield 49, 3) := by decide +kernel
theorem dX7_looks_10 : decode cX7_looks 10 = .ok (.iconst 0, 1) := by decide +kernel
theorem dX7_looks_11 : decode cX7_looks 11 = .ok (.istore 5, 2) := by decide +kernel
theorem dX7_looks_13 : decode cX7_looks 13 = .ok (.iload 5, 2) := by decide +kernel
theorem dX7_looks_15 : decode cX7_looks 15 = .ok (.aload_n 0, 1) := by decide +kernel
theorem dX7_looks_16 : decode cX7_looks 16 = .ok (.getfield 7, 3) := by decide +kernel
theorem dX7_looks_19 : decode cX7_looks 19 = .ok (.iload_n 1, 1) := by decide +kernel
theorem dX7_looks_20 : decode cX7_looks 20 = .ok (.iaload, 1) := by decide +kernel
theorem dX7_looks_21 : decode cX7_looks 21 = .ok (.if_icmp .ge 70, 3) := by decide +kernel
theorem dX7_looks_24 : decode cX7_looks 24 = .ok (.iload 5, 2) := by decide +kernel
theorem dX7_looks_26 : decode cX7_looks 26 = .ok (.iload_n 3, 1) := by decide +kernel
theorem dX7_looks_27 : decode cX7_looks 27 = .ok (.iadd, 1) := by decide +kernel
theorem dX7_looks_28 : decode cX7_looks 28 = .ok (.iconst 0, 1) := by decide +kernel
theorem dX7_looks_29 : decode cX7_looks 29 = .ok (.aload_n 0, 1) := by decide +kernel
theorem dX7_looks_30 : decode cX7_looks 30 = .ok (.getfield 7, 3) := by decide +kernel
theorem dX7_looks_33 : decode cX7_looks 33 = .ok (.iload_n 2, 1) := by decide +kernel
theorem dX7_looks_34 : decode cX7_looks 34 = .ok (.iaload, 1) := by decide +kernel
theorem dX7_looks_35 : decode cX7_looks 35 = .ok (.iconst 1, 1) := by decide +kernel
theorem dX7_looks_36 : decode cX7_looks 36 = .ok (.isub, 1) := by decide +kernel
theorem dX7_looks_37 : decode cX7_looks 37 = .ok (.invokestatic 38, 3) := by decide +kernel
theorem dX7_looks_40 : decode cX7_looks 40 = .ok (.ifCond .eq 45, 3) := by decide +kernel
theorem dX7_looks_43 : decode cX7_looks 43 = .ok (.aload_n 0, 1) := by decide +kernel
theorem dX7_looks_44 : decode cX7_looks 44 = .ok (.aload_n 0, 1) := by decide +kernel
theorem dX7_looks_45 : decode cX7_looks 45 = .ok (.getfield 13, 3) := by decide +kernel
theorem dX7_looks_48 : decode cX7_looks 48 = .ok (.bipush 16, 2) := by decide +kernel
theorem dX7_looks_50 : decode cX7_looks 50 = .ok (.iload_n 1, 1) := by decide +kernel
theorem dX7_looks_51 : decode cX7_looks 51 = .ok (.imul, 1) := by decide +kernel
theorem dX7_looks_52 : decode cX7_looks 52 = .ok (.iload 5, 2) := by decide +kernel
theorem dX7_looks_54 : decode cX7_looks 54 = .ok (.iadd, 1) := by decide +kernel
theorem dX7_looks_55 : decode cX7_looks 55 = .ok (.iaload, 1) := by decide +kernel
theorem dX7_looks_56 : decode cX7_looks 56 = .ok (.iconst 4, 1) := by decide +kernel
theorem dX7_looks_57 : decode cX7_looks 57 = .ok (.iadd, 1) := by decide +kernel
theorem dX7_looks_58 : decode cX7_looks 58 = .ok (.aload_n 0, 1) := by decide +kernel
theorem dX7_looks_59 : decode cX7_looks 59 = .ok (.getfield 13, 3) := by decide +kernel
theorem dX7_looks_62 : decode cX7_looks 62 = .ok (.bipush 16, 2) := by decide +kernel
theorem dX7_looks_64 : decode cX7_looks 64 = .ok (.iload_n 2, 1) := by decide +kernel
theorem dX7_looks_65 : decode cX7_looks 65 = .ok (.imul, 1) := by decide +kernel
theorem dX7_looks_66 : decode cX7_looks 66 = .ok (.iload 5, 2) := by decide +kernel
theorem dX7_looks_68 : decode cX7_looks 68 = .ok (.iadd, 1) := by decide +kernel
theorem dX7_looks_69 : decode cX7_looks 69 = .ok (.iload_n 3, 1) := by decide +kernel
theorem dX7_looks_70 : decode cX7_looks 70 = .ok (.iadd, 1) := by decide +kernel
theorem dX7_looks_71 : decode cX7_looks 71 = .ok (.iaload, 1) := by decide +kernel
theorem dX7_looks_72 : decode cX7_looks 72 = .ok (.isub, 1) := by decide +kernel
theorem dX7_looks_73 : decode cX7_looks 73 = .ok (.iload 4, 2) := by decide +kernel
theorem dX7_looks_75 : decode cX7_looks 75 = .ok (.iload 5, 2) := by decide +kernel
theorem dX7_looks_77 : decode cX7_looks 77 = .ok (.imul, 1) := by decide +kernel
theorem dX7_looks_78 : decode cX7_looks 78 = .ok (.iadd, 1) := by decide +kernel
theorem dX7_looks_79 : decode cX7_looks 79 = .ok (.iconst 4, 1) := by decide +kernel
theorem dX7_looks_80 : decode cX7_looks 80 = .ok (.irem, 1) := by decide +kernel
theorem dX7_looks_81 : decode cX7_looks 81 = .ok (.iconst 1, 1) := by decide +kernel
theorem dX7_looks_82 : decode cX7_looks 82 = .ok (.invokevirtual 52, 3) := by decide +kernel
theorem dX7_looks_85 : decode cX7_looks 85 = .ok (.iinc 5 1, 3) := by decide +kernel
theorem dX7_looks_88 : decode cX7_looks 88 = .ok (.goto (-75), 3) := by decide +kernel
theorem dX7_looks_91 : decode cX7_looks 91 = .ok (.aload_n 0, 1) := by decide +kernel
theorem dX7_looks_92 : decode cX7_looks 92 = .ok (.getfield 46, 3) := by decide +kernel
theorem dX7_looks_95 : decode cX7_looks 95 = .ok (.aload_n 0, 1) := by decide +kernel
theorem dX7_looks_96 : decode cX7_looks 96 = .ok (.getfield 46, 3) := by decide +kernel
theorem dX7_looks_99 : decode cX7_looks 99 = .ok (.imul, 1) := by decide +kernel
theorem dX7_looks_100 : decode cX7_looks 100 = .ok (.aload_n 0, 1) := by decide +kernel
theorem dX7_looks_101 : decode cX7_looks 101 = .ok (.getfield 49, 3) := by decide +kernel
theorem dX7_looks_104 : decode cX7_looks 104 = .ok (.aload_n 0, 1) := by decide +kernel
theorem dX7_looks_105 : decode cX7_looks 105 = .ok (.getfield 49, 3) := by decide +kernel
theorem dX7_looks_108 : decode cX7_looks 108 = .ok (.imul, 1) := by decide +kernel
theorem dX7_looks_109 : decode cX7_looks 109 = .ok (.iadd, 1) := by decide +kernel
theorem dX7_looks_110 : decode cX7_looks 110 = .ok (.ireturn, 1) := by decide +kernel
set_option maxRecDepth 20000 in
theorem ggX7_look_X7_isSign : GoodIn wsX7_look wsX7_isSign := goodIn_r _ [6, 7, 8, 5, 9] (by decide +kernel) (by decide +kernel)
set_option maxRecDepth 20000 in
theorem gX7_look_X7_isSign : GoodIn wsX7_look (va_wsS RX7 42 yX7_isSign wsX7_isSign) := goodIn_app (goodIn_of _ (by decide +kernel)) ggX7_look_X7_isSign
set_option maxRecDepth 20000 in
theorem ggX7_look_X7_in : GoodIn wsX7_look wsX7_in := goodIn_r _ [9] (by decide +kernel) (by decide +kernel)
set_option maxRecDepth 20000 in
theorem gX7_look_X7_in : GoodIn wsX7_look (va_wsS RX7 38 yX7_in wsX7_in) := goodIn_app (goodIn_of _ (by decide +kernel)) ggX7_look_X7_in
set_option maxRecDepth 20000 in
theorem ggX7_look_X7_looks : GoodIn wsX7_look wsX7_looks := goodIn_r _ [13, 1, 2, 14, 15, 7, 8, 5, 9, 16, 17, 18, 19, 20, 21, 22, 23, 24, 25, 26, 27, 28, 29, 30, 31, 32, 33, 34, 35] (by decide +kernel) (by decide +kernel)
set_option maxRecDepth 20000 in
theorem gX7_look_X7_looks : GoodIn wsX7_look (wsV RX7 56 RX7 yX7_looks wsX7_looks) := goodIn_app (goodIn_of _ (by decide +kernel)) ggX7_look_X7_looks
theorem dX7_look_0 : decode cX7_look 0 = .ok (.iload_n 1, 1) := by decide +kernel
theorem dX7_look_1 : decode cX7_look 1 = .ok (.invokestatic 42, 3) := by decide +kernel
theorem dX7_look_4 : decode cX7_look 4 = .ok (.ifCond .eq 10, 3) := by decide +kernel
theorem dX7_look_7 : decode cX7_look 7 = .ok (.iload_n 2, 1) := by decide +kernel
theorem dX7_look_8 : decode cX7_look 8 = .ok (.invokestatic 42, 3) := by decide +kernel
theorem dX7_look_11 : decode cX7_look 11 = .ok (.ifCond .ne 7, 3) := by decide +kernel
theorem dX7_look_14 : decode cX7_look 14 = .ok (.sipush (-1000), 3) := by decide +kernel
theorem dX7_look_17 : decode cX7_look 17 = .ok (.ireturn, 1) := by decide +kernel
theorem dX7_look_18 : decode cX7_look 18 = .ok (.iload_n 3, 1) := by decide +kernel
theorem dX7_look_19 : decode cX7_look 19 = .ok (.bipush (-15), 2) := by decide +kernel
theorem dX7_look_21 : decode cX7_look 21 = .ok (.bipush 15, 2) := by decide +kernel
theorem dX7_look_23 : decode cX7_look 23 = .ok (.invokestatic 38, 3) := by decide +kernel
theorem dX7_look_26 : decode cX7_look 26 = .ok (.ifCond .eq 23, 3) := by decide +kernel
theorem dX7_look_29 : decode cX7_look 29 = .ok (.iload 4, 2) := by decide +kernel
theorem dX7_look_31 : decode cX7_look 31 = .ok (.iconst 0, 1) := by decide +kernel
theorem dX7_look_32 : decode cX7_look 32 = .ok (.iconst 3, 1) := by decide +kernel
theorem dX7_look_33 : decode cX7_look 33 = .ok (.invokestatic 38, 3) := by decide +kernel
theorem dX7_look_36 : decode cX7_look 36 = .ok (.ifCond .eq 13, 3) := by decide +kernel
theorem dX7_look_39 : decode cX7_look 39 = .ok (.iload 5, 2) := by decide +kernel
theorem dX7_look_41 : decode cX7_look 41 = .ok (.iconst 0, 1) := by decide +kernel
theorem dX7_look_42 : decode cX7_look 42 = .ok (.iconst 1, 1) := by decide +kernel
theorem dX7_look_43 : decode cX7_look 43 = .ok (.invokestatic 38, 3) := by decide +kernel
theorem dX7_look_46 : decode cX7_look 46 = .ok (.ifCond .ne 7, 3) := by decide +kernel
theorem dX7_look_49 : decode cX7_look 49 = .ok (.sipush (-1001), 3) := by decide +kernel
theorem dX7_look_52 : decode cX7_look 52 = .ok (.ireturn, 1) := by decide +kernel
theorem dX7_look_53 : decode cX7_look 53 = .ok (.aload_n 0, 1) := by decide +kernel
theorem dX7_look_54 : decode cX7_look 54 = .ok (.iload_n 1, 1) := by decide +kernel
theorem dX7_look_55 : decode cX7_look 55 = .ok (.iload_n 2, 1) := by decide +kernel
theorem dX7_look_56 : decode cX7_look 56 = .ok (.iload_n 3, 1) := by decide +kernel
theorem dX7_look_57 : decode cX7_look 57 = .ok (.iload 4, 2) := by decide +kernel
theorem dX7_look_59 : decode cX7_look 59 = .ok (.invokevirtual 56, 3) := by decide +kernel
theorem dX7_look_62 : decode cX7_look 62 = .ok (.pop, 1) := by decide +kernel
theorem dX7_look_63 : decode cX7_look 63 = .ok (.iload 5, 2) := by decide +kernel
theorem dX7_look_65 : decode cX7_look 65 = .ok (.ifCond .ne 10, 3) := by decide +kernel
theorem dX7_look_68 : decode cX7_look 68 = .ok (.aload_n 0, 1) := by decide +kernel
theorem dX7_look_69 : decode cX7_look 69 = .ok (.getfield 46, 3) := by decide +kernel
theorem dX7_look_72 : decode cX7_look 72 = .ok (.goto 7, 3) := by decide +kernel
theorem dX7_look_75 : decode cX7_look 75 = .ok (.aload_n 0, 1) := by decide +kernel
theorem dX7_look_76 : decode cX7_look 76 = .ok (.getfield 49, 3) := by decide +kernel
theorem dX7_look_79 : decode cX7_look 79 = .ok (.ireturn, 1) := by decide +kernel
set_option maxRecDepth 20000 in
theorem ggX7_peakOf_X7_looks : GoodIn wsX7_peakOf wsX7_looks := goodIn_r _ [6, 7, 8, 1, 9, 10, 11, 5, 12, 13, 14, 15, 16, 17, 18, 19, 20, 21, 22, 23, 24, 25, 26, 27, 28, 29, 30, 31, 32] (by decide +kernel) (by decide +kernel)
set_option maxRecDepth 20000 in
theorem gX7_peakOf_X7_looks : GoodIn wsX7_peakOf (wsV RX7 56 RX7 yX7_looks wsX7_looks) := goodIn_app (goodIn_of _ (by decide +kernel)) ggX7_peakOf_X7_looks
theorem dX7_peakOf_0 : decode cX7_peakOf 0 = .ok (.iconst 0, 1) := by decide +kernel
theorem dX7_peakOf_1 : decode cX7_peakOf 1 = .ok (.istore_n 2, 1) := by decide +kernel
theorem dX7_peakOf_2 : decode cX7_peakOf 2 = .ok (.iconst 1, 1) := by decide +kernel
theorem dX7_peakOf_3 : decode cX7_peakOf 3 = .ok (.istore_n 3, 1) := by decide +kernel
theorem dX7_peakOf_4 : decode cX7_peakOf 4 = .ok (.iload_n 3, 1) := by decide +kernel
theorem dX7_peakOf_5 : decode cX7_peakOf 5 = .ok (.aload_n 0, 1) := by decide +kernel
theorem dX7_peakOf_6 : decode cX7_peakOf 6 = .ok (.getfield 7, 3) := by decide +kernel
theorem dX7_peakOf_9 : decode cX7_peakOf 9 = .ok (.iload_n 1, 1) := by decide +kernel
theorem dX7_peakOf_10 : decode cX7_peakOf 10 = .ok (.iaload, 1) := by decide +kernel
theorem dX7_peakOf_11 : decode cX7_peakOf 11 = .ok (.if_icmp .ge 32, 3) := by decide +kernel
theorem dX7_peakOf_14 : decode cX7_peakOf 14 = .ok (.aload_n 0, 1) := by decide +kernel
theorem dX7_peakOf_15 : decode cX7_peakOf 15 = .ok (.iload_n 1, 1) := by decide +kernel
theorem dX7_peakOf_16 : decode cX7_peakOf 16 = .ok (.iload_n 1, 1) := by decide +kernel
theorem dX7_peakOf_17 : decode cX7_peakOf 17 = .ok (.iload_n 3, 1) := by decide +kernel
theorem dX7_peakOf_18 : decode cX7_peakOf 18 = .ok (.iconst 0, 1) := by decide +kernel
theorem dX7_peakOf_19 : decode cX7_peakOf 19 = .ok (.invokevirtual 56, 3) := by decide +kernel
theorem dX7_peakOf_22 : decode cX7_peakOf 22 = .ok (.istore 4, 2) := by decide +kernel
theorem dX7_peakOf_24 : decode cX7_peakOf 24 = .ok (.iload 4, 2) := by decide +kernel
theorem dX7_peakOf_26 : decode cX7_peakOf 26 = .ok (.iload_n 2, 1) := by decide +kernel
theorem dX7_peakOf_27 : decode cX7_peakOf 27 = .ok (.if_icmp .le 8, 3) := by decide +kernel
theorem dX7_peakOf_30 : decode cX7_peakOf 30 = .ok (.iload 4, 2) := by decide +kernel
theorem dX7_peakOf_32 : decode cX7_peakOf 32 = .ok (.goto 4, 3) := by decide +kernel
theorem dX7_peakOf_35 : decode cX7_peakOf 35 = .ok (.iload_n 2, 1) := by decide +kernel
theorem dX7_peakOf_36 : decode cX7_peakOf 36 = .ok (.istore_n 2, 1) := by decide +kernel
theorem dX7_peakOf_37 : decode cX7_peakOf 37 = .ok (.iinc 3 1, 3) := by decide +kernel
theorem dX7_peakOf_40 : decode cX7_peakOf 40 = .ok (.goto (-36), 3) := by decide +kernel
theorem dX7_peakOf_43 : decode cX7_peakOf 43 = .ok (.iload_n 2, 1) := by decide +kernel
theorem dX7_peakOf_44 : decode cX7_peakOf 44 = .ok (.ireturn, 1) := by decide +kernel
set_option maxRecDepth 20000 in
theorem ggX7_flankOf_X7_looks : GoodIn wsX7_flankOf wsX7_looks := goodIn_r _ [6, 7, 8, 1, 9, 10, 11, 5, 12, 13, 14, 15, 16, 17, 18, 19, 20, 21, 22, 23, 24, 25, 26, 27, 28, 29, 30, 31, 32] (by decide +kernel) (by decide +kernel)
set_option maxRecDepth 20000 in
theorem gX7_flankOf_X7_looks : GoodIn wsX7_flankOf (wsV RX7 56 RX7 yX7_looks wsX7_looks) := goodIn_app (goodIn_of _ (by decide +kernel)) ggX7_flankOf_X7_looks
theorem dX7_flankOf_0 : decode cX7_flankOf 0 = .ok (.iconst 0, 1) := by decide +kernel
theorem dX7_flankOf_1 : decode cX7_flankOf 1 = .ok (.istore_n 2, 1) := by decide +kernel
theorem dX7_flankOf_2 : decode cX7_flankOf 2 = .ok (.iconst 1, 1) := by decide +kernel
theorem dX7_flankOf_3 : decode cX7_flankOf 3 = .ok (.istore_n 3, 1) := by decide +kernel
theorem dX7_flankOf_4 : decode cX7_flankOf 4 = .ok (.iload_n 3, 1) := by decide +kernel
theorem dX7_flankOf_5 : decode cX7_flankOf 5 = .ok (.aload_n 0, 1) := by decide +kernel
theorem dX7_flankOf_6 : decode cX7_flankOf 6 = .ok (.getfield 7, 3) := by decide +kernel
theorem dX7_flankOf_9 : decode cX7_flankOf 9 = .ok (.iload_n 1, 1) := by decide +kernel
theorem dX7_flankOf_10 : decode cX7_flankOf 10 = .ok (.iaload, 1) := by decide +kernel
theorem dX7_flankOf_11 : decode cX7_flankOf 11 = .ok (.if_icmp .ge 20, 3) := by decide +kernel
theorem dX7_flankOf_14 : decode cX7_flankOf 14 = .ok (.iload_n 2, 1) := by decide +kernel
theorem dX7_flankOf_15 : decode cX7_flankOf 15 = .ok (.aload_n 0, 1) := by decide +kernel
theorem dX7_flankOf_16 : decode cX7_flankOf 16 = .ok (.iload_n 1, 1) := by decide +kernel
theorem dX7_flankOf_17 : decode cX7_flankOf 17 = .ok (.iload_n 1, 1) := by decide +kernel
theorem dX7_flankOf_18 : decode cX7_flankOf 18 = .ok (.iload_n 3, 1) := by decide +kernel
theorem dX7_flankOf_19 : decode cX7_flankOf 19 = .ok (.iconst 0, 1) := by decide +kernel
theorem dX7_flankOf_20 : decode cX7_flankOf 20 = .ok (.invokevirtual 56, 3) := by decide +kernel
theorem dX7_flankOf_23 : decode cX7_flankOf 23 = .ok (.iadd, 1) := by decide +kernel
theorem dX7_flankOf_24 : decode cX7_flankOf 24 = .ok (.istore_n 2, 1) := by decide +kernel
theorem dX7_flankOf_25 : decode cX7_flankOf 25 = .ok (.iinc 3 1, 3) := by decide +kernel
theorem dX7_flankOf_28 : decode cX7_flankOf 28 = .ok (.goto (-24), 3) := by decide +kernel
theorem dX7_flankOf_31 : decode cX7_flankOf 31 = .ok (.iload_n 2, 1) := by decide +kernel
theorem dX7_flankOf_32 : decode cX7_flankOf 32 = .ok (.ireturn, 1) := by decide +kernel
set_option maxRecDepth 20000 in
theorem ggX7_peak_X7_isSign : GoodIn wsX7_peak wsX7_isSign := goodIn_r _ [4, 5, 6, 3, 7] (by decide +kernel) (by decide +kernel)
set_option maxRecDepth 20000 in
theorem gX7_peak_X7_isSign : GoodIn wsX7_peak (va_wsS RX7 42 yX7_isSign wsX7_isSign) := goodIn_app (goodIn_of _ (by decide +kernel)) ggX7_peak_X7_isSign
set_option maxRecDepth 20000 in
theorem ggX7_peak_X7_peakOf : GoodIn wsX7_peak wsX7_peakOf := goodIn_r _ [11, 12, 13, 14, 15, 3, 16, 17, 18, 19, 5, 6, 7, 20, 21, 22, 23, 24, 25, 26, 27, 28, 29, 30, 31, 32, 33, 34, 35, 36, 37, 38, 39] (by decide +kernel) (by decide +kernel)
set_option maxRecDepth 20000 in
theorem gX7_peak_X7_peakOf : GoodIn wsX7_peak (wsV RX7 60 RX7 yX7_peakOf wsX7_peakOf) := goodIn_app (goodIn_of _ (by decide +kernel)) ggX7_peak_X7_peakOf
theorem dX7_peak_0 : decode cX7_peak 0 = .ok (.iload_n 1, 1) := by decide +kernel
theorem dX7_peak_1 : decode cX7_peak 1 = .ok (.invokestatic 42, 3) := by decide +kernel
theorem dX7_peak_4 : decode cX7_peak 4 = .ok (.ifCond .eq 11, 3) := by decide +kernel
theorem dX7_peak_7 : decode cX7_peak 7 = .ok (.aload_n 0, 1) := by decide +kernel
theorem dX7_peak_8 : decode cX7_peak 8 = .ok (.iload_n 1, 1) := by decide +kernel
theorem dX7_peak_9 : decode cX7_peak 9 = .ok (.invokevirtual 60, 3) := by decide +kernel
theorem dX7_peak_12 : decode cX7_peak 12 = .ok (.goto 5, 3) := by decide +kernel
theorem dX7_peak_15 : decode cX7_peak 15 = .ok (.bipush (-101), 2) := by decide +kernel
theorem dX7_peak_17 : decode cX7_peak 17 = .ok (.ireturn, 1) := by decide +kernel
set_option maxRecDepth 20000 in
theorem ggX7_flank_X7_isSign : GoodIn wsX7_flank wsX7_isSign := goodIn_r _ [4, 5, 6, 3, 7] (by decide +kernel) (by decide +kernel)
set_option maxRecDepth 20000 in
theorem gX7_flank_X7_isSign : GoodIn wsX7_flank (va_wsS RX7 42 yX7_isSign wsX7_isSign) := goodIn_app (goodIn_of _ (by decide +kernel)) ggX7_flank_X7_isSign
set_option maxRecDepth 20000 in
theorem ggX7_flank_X7_flankOf : GoodIn wsX7_flank wsX7_flankOf := goodIn_r _ [11, 12, 13, 14, 15, 3, 16, 17, 18, 19, 5, 6, 7, 20, 21, 22, 23, 24, 25, 26, 27, 28, 29, 30, 31, 32, 33, 34, 35, 36, 37, 38, 39] (by decide +kernel) (by decide +kernel)
set_option maxRecDepth 20000 in
theorem gX7_flank_X7_flankOf : GoodIn wsX7_flank (wsV RX7 64 RX7 yX7_flankOf wsX7_flankOf) := goodIn_app (goodIn_of _ (by decide +kernel)) ggX7_flank_X7_flankOf
theorem dX7_flank_0 : decode cX7_flank 0 = .ok (.iload_n 1, 1) := by decide +kernel
theorem dX7_flank_1 : decode cX7_flank 1 = .ok (.invokestatic 42, 3) := by decide +kernel
theorem dX7_flank_4 : decode cX7_flank 4 = .ok (.ifCond .eq 11, 3) := by decide +kernel
theorem dX7_flank_7 : decode cX7_flank 7 = .ok (.aload_n 0, 1) := by decide +kernel
theorem dX7_flank_8 : decode cX7_flank 8 = .ok (.iload_n 1, 1) := by decide +kernel
theorem dX7_flank_9 : decode cX7_flank 9 = .ok (.invokevirtual 64, 3) := by decide +kernel
theorem dX7_flank_12 : decode cX7_flank 12 = .ok (.goto 5, 3) := by decide +kernel
theorem dX7_flank_15 : decode cX7_flank 15 = .ok (.bipush (-101), 2) := by decide +kernel
theorem dX7_flank_17 : decode cX7_flank 17 = .ok (.ireturn, 1) := by decide +kernel
set_option maxRecDepth 20000 in
theorem ggX7_worst_X7_isSign : GoodIn wsX7_worst wsX7_isSign := goodIn_r _ [4, 5, 6, 3, 7] (by decide +kernel) (by decide +kernel)
set_option maxRecDepth 20000 in
theorem gX7_worst_X7_isSign : GoodIn wsX7_worst (va_wsS RX7 42 yX7_isSign wsX7_isSign) := goodIn_app (goodIn_of _ (by decide +kernel)) ggX7_worst_X7_isSign
set_option maxRecDepth 20000 in
theorem ggX7_worst_X7_looks : GoodIn wsX7_worst wsX7_looks := goodIn_r _ [11, 12, 13, 14, 15, 5, 6, 3, 7, 16, 17, 18, 19, 20, 21, 22, 23, 24, 25, 26, 27, 28, 29, 30, 31, 32, 33, 34, 35] (by decide +kernel) (by decide +kernel)
set_option maxRecDepth 20000 in
theorem gX7_worst_X7_looks : GoodIn wsX7_worst (wsV RX7 56 RX7 yX7_looks wsX7_looks) := goodIn_app (goodIn_of _ (by decide +kernel)) ggX7_worst_X7_looks
theorem dX7_worst_0 : decode cX7_worst 0 = .ok (.iload_n 1, 1) := by decide +kernel
theorem dX7_worst_1 : decode cX7_worst 1 = .ok (.invokestatic 42, 3) := by decide +kernel
theorem dX7_worst_4 : decode cX7_worst 4 = .ok (.ifCond .ne 6, 3) := by decide +kernel
theorem dX7_worst_7 : decode cX7_worst 7 = .ok (.bipush (-101), 2) := by decide +kernel
theorem dX7_worst_9 : decode cX7_worst 9 = .ok (.ireturn, 1) := by decide +kernel
theorem dX7_worst_10 : decode cX7_worst 10 = .ok (.iconst 0, 1) := by decide +kernel
theorem dX7_worst_11 : decode cX7_worst 11 = .ok (.istore_n 2, 1) := by decide +kernel
theorem dX7_worst_12 : decode cX7_worst 12 = .ok (.bipush (-15), 2) := by decide +kernel
theorem dX7_worst_14 : decode cX7_worst 14 = .ok (.istore_n 3, 1) := by decide +kernel
theorem dX7_worst_15 : decode cX7_worst 15 = .ok (.iload_n 3, 1) := by decide +kernel
theorem dX7_worst_16 : decode cX7_worst 16 = .ok (.bipush 15, 2) := by decide +kernel
theorem dX7_worst_18 : decode cX7_worst 18 = .ok (.if_icmp .gt 61, 3) := by decide +kernel
theorem dX7_worst_21 : decode cX7_worst 21 = .ok (.iconst 0, 1) := by decide +kernel
theorem dX7_worst_22 : decode cX7_worst 22 = .ok (.istore 4, 2) := by decide +kernel
theorem dX7_worst_24 : decode cX7_worst 24 = .ok (.iload 4, 2) := by decide +kernel
theorem dX7_worst_26 : decode cX7_worst 26 = .ok (.iconst 4, 1) := by decide +kernel
theorem dX7_worst_27 : decode cX7_worst 27 = .ok (.if_icmp .ge 46, 3) := by decide +kernel
theorem dX7_worst_30 : decode cX7_worst 30 = .ok (.iload_n 3, 1) := by decide +kernel
theorem dX7_worst_31 : decode cX7_worst 31 = .ok (.ifCond .ne 12, 3) := by decide +kernel
theorem dX7_worst_34 : decode cX7_worst 34 = .ok (.iload 4, 2) := by decide +kernel
theorem dX7_worst_36 : decode cX7_worst 36 = .ok (.ifCond .ne 7, 3) := by decide +kernel
theorem dX7_worst_39 : decode cX7_worst 39 = .ok (.iconst 0, 1) := by decide +kernel
theorem dX7_worst_40 : decode cX7_worst 40 = .ok (.goto 12, 3) := by decide +kernel
theorem dX7_worst_43 : decode cX7_worst 43 = .ok (.aload_n 0, 1) := by decide +kernel
theorem dX7_worst_44 : decode cX7_worst 44 = .ok (.iload_n 1, 1) := by decide +kernel
theorem dX7_worst_45 : decode cX7_worst 45 = .ok (.iload_n 1, 1) := by decide +kernel
theorem dX7_worst_46 : decode cX7_worst 46 = .ok (.iload_n 3, 1) := by decide +kernel
theorem dX7_worst_47 : decode cX7_worst 47 = .ok (.iload 4, 2) := by decide +kernel
theorem dX7_worst_49 : decode cX7_worst 49 = .ok (.invokevirtual 56, 3) := by decide +kernel
theorem dX7_worst_52 : decode cX7_worst 52 = .ok (.istore 5, 2) := by decide +kernel
theorem dX7_worst_54 : decode cX7_worst 54 = .ok (.iload 5, 2) := by decide +kernel
theorem dX7_worst_56 : decode cX7_worst 56 = .ok (.iload_n 2, 1) := by decide +kernel
theorem dX7_worst_57 : decode cX7_worst 57 = .ok (.if_icmp .le 8, 3) := by decide +kernel
theorem dX7_worst_60 : decode cX7_worst 60 = .ok (.iload 5, 2) := by decide +kernel
theorem dX7_worst_62 : decode cX7_worst 62 = .ok (.goto 4, 3) := by decide +kernel
theorem dX7_worst_65 : decode cX7_worst 65 = .ok (.iload_n 2, 1) := by decide +kernel
theorem dX7_worst_66 : decode cX7_worst 66 = .ok (.istore_n 2, 1) := by decide +kernel
theorem dX7_worst_67 : decode cX7_worst 67 = .ok (.iinc 4 1, 3) := by decide +kernel
theorem dX7_worst_70 : decode cX7_worst 70 = .ok (.goto (-46), 3) := by decide +kernel
theorem dX7_worst_73 : decode cX7_worst 73 = .ok (.iinc 3 1, 3) := by decide +kernel
theorem dX7_worst_76 : decode cX7_worst 76 = .ok (.goto (-61), 3) := by decide +kernel
theorem dX7_worst_79 : decode cX7_worst 79 = .ok (.iload_n 2, 1) := by decide +kernel
theorem dX7_worst_80 : decode cX7_worst 80 = .ok (.ireturn, 1) := by decide +kernel
theorem dX7_lay_0 : decode cX7_lay 0 = .ok (.iconst 0, 1) := by decide +kernel
theorem dX7_lay_1 : decode cX7_lay 1 = .ok (.istore 4, 2) := by decide +kernel
theorem dX7_lay_3 : decode cX7_lay 3 = .ok (.iload 4, 2) := by decide +kernel
theorem dX7_lay_5 : decode cX7_lay 5 = .ok (.bipush 16, 2) := by decide +kernel
theorem dX7_lay_7 : decode cX7_lay 7 = .ok (.if_icmp .ge 43, 3) := by decide +kernel
theorem dX7_lay_10 : decode cX7_lay 10 = .ok (.aload_n 0, 1) := by decide +kernel
theorem dX7_lay_11 : decode cX7_lay 11 = .ok (.getfield 13, 3) := by decide +kernel
theorem dX7_lay_14 : decode cX7_lay 14 = .ok (.bipush 16, 2) := by decide +kernel
theorem dX7_lay_16 : decode cX7_lay 16 = .ok (.iload_n 1, 1) := by decide +kernel
theorem dX7_lay_17 : decode cX7_lay 17 = .ok (.imul, 1) := by decide +kernel
theorem dX7_lay_18 : decode cX7_lay 18 = .ok (.iload 4, 2) := by decide +kernel
theorem dX7_lay_20 : decode cX7_lay 20 = .ok (.iadd, 1) := by decide +kernel
theorem dX7_lay_21 : decode cX7_lay 21 = .ok (.iload 4, 2) := by decide +kernel
theorem dX7_lay_23 : decode cX7_lay 23 = .ok (.iload_n 2, 1) := by decide +kernel
theorem dX7_lay_24 : decode cX7_lay 24 = .ok (.if_icmp .ge 18, 3) := by decide +kernel
theorem dX7_lay_27 : decode cX7_lay 27 = .ok (.iconst 2, 1) := by decide +kernel
theorem dX7_lay_28 : decode cX7_lay 28 = .ok (.iload_n 3, 1) := by decide +kernel
theorem dX7_lay_29 : decode cX7_lay 29 = .ok (.iload_n 2, 1) := by decide +kernel
theorem dX7_lay_30 : decode cX7_lay 30 = .ok (.iconst 1, 1) := by decide +kernel
theorem dX7_lay_31 : decode cX7_lay 31 = .ok (.isub, 1) := by decide +kernel
theorem dX7_lay_32 : decode cX7_lay 32 = .ok (.iload 4, 2) := by decide +kernel
theorem dX7_lay_34 : decode cX7_lay 34 = .ok (.isub, 1) := by decide +kernel
theorem dX7_lay_35 : decode cX7_lay 35 = .ok (.ishr, 1) := by decide +kernel
theorem dX7_lay_36 : decode cX7_lay 36 = .ok (.iconst 1, 1) := by decide +kernel
theorem dX7_lay_37 : decode cX7_lay 37 = .ok (.iand, 1) := by decide +kernel
theorem dX7_lay_38 : decode cX7_lay 38 = .ok (.imul, 1) := by decide +kernel
theorem dX7_lay_39 : decode cX7_lay 39 = .ok (.goto 4, 3) := by decide +kernel
theorem dX7_lay_42 : decode cX7_lay 42 = .ok (.iconst 0, 1) := by decide +kernel
theorem dX7_lay_43 : decode cX7_lay 43 = .ok (.iastore, 1) := by decide +kernel
theorem dX7_lay_44 : decode cX7_lay 44 = .ok (.iinc 4 1, 3) := by decide +kernel
theorem dX7_lay_47 : decode cX7_lay 47 = .ok (.goto (-44), 3) := by decide +kernel
theorem dX7_lay_50 : decode cX7_lay 50 = .ok (.return_, 1) := by decide +kernel
set_option maxRecDepth 20000 in
theorem ggX7_best_X7_isSign : GoodIn wsX7_best wsX7_isSign := goodIn_r _ [6, 7, 8, 5, 9] (by decide +kernel) (by decide +kernel)
set_option maxRecDepth 20000 in
theorem gX7_best_X7_isSign : GoodIn wsX7_best (va_wsS RX7 42 yX7_isSign wsX7_isSign) := goodIn_app (goodIn_of _ (by decide +kernel)) ggX7_best_X7_isSign
set_option maxRecDepth 20000 in
theorem ggX7_best_X7_in : GoodIn wsX7_best wsX7_in := goodIn_r _ [9] (by decide +kernel) (by decide +kernel)
set_option maxRecDepth 20000 in
theorem gX7_best_X7_in : GoodIn wsX7_best (va_wsS RX7 38 yX7_in wsX7_in) := goodIn_app (goodIn_of _ (by decide +kernel)) ggX7_best_X7_in
set_option maxRecDepth 20000 in
theorem ggX7_best_X7_lay : GoodIn wsX7_best wsX7_lay := goodIn_r _ [13, 14, 33, 34, 35, 36, 37, 38, 39, 40, 41, 42, 43, 44, 45, 46, 47, 48] (by decide +kernel) (by decide +kernel)
set_option maxRecDepth 20000 in
theorem gX7_best_X7_lay : GoodIn wsX7_best (wsV RX7 70 RX7 yX7_lay wsX7_lay) := goodIn_app (goodIn_of _ (by decide +kernel)) ggX7_best_X7_lay
set_option maxRecDepth 20000 in
theorem ggX7_best_X7_peakOf : GoodIn wsX7_best wsX7_peakOf := goodIn_r _ [18, 2, 19, 20, 21, 5, 22, 23, 24, 14, 7, 8, 9, 25, 26, 27, 28, 33, 34, 35, 36, 37, 38, 39, 40, 41, 42, 43, 44, 45, 46, 47, 48] (by decide +kernel) (by decide +kernel)
set_option maxRecDepth 20000 in
theorem gX7_best_X7_peakOf : GoodIn wsX7_best (wsV RX7 60 RX7 yX7_peakOf wsX7_peakOf) := goodIn_app (goodIn_of _ (by decide +kernel)) ggX7_best_X7_peakOf
set_option maxRecDepth 20000 in
theorem ggX7_best_X7_flankOf : GoodIn wsX7_best wsX7_flankOf := goodIn_r _ [32, 2, 19, 20, 21, 5, 22, 23, 24, 14, 7, 8, 9, 25, 26, 27, 28, 33, 34, 35, 36, 37, 38, 39, 40, 41, 42, 43, 44, 45, 46, 47, 48] (by decide +kernel) (by decide +kernel)
set_option maxRecDepth 20000 in
theorem gX7_best_X7_flankOf : GoodIn wsX7_best (wsV RX7 64 RX7 yX7_flankOf wsX7_flankOf) := goodIn_app (goodIn_of _ (by decide +kernel)) ggX7_best_X7_flankOf
theorem dX7_best_0 : decode cX7_best 0 = .ok (.iload_n 1, 1) := by decide +kernel
theorem dX7_best_1 : decode cX7_best 1 = .ok (.invokestatic 42, 3) := by decide +kernel
theorem dX7_best_4 : decode cX7_best 4 = .ok (.ifCond .ne 6, 3) := by decide +kernel
theorem dX7_best_7 : decode cX7_best 7 = .ok (.bipush (-101), 2) := by decide +kernel
theorem dX7_best_9 : decode cX7_best 9 = .ok (.ireturn, 1) := by decide +kernel
theorem dX7_best_10 : decode cX7_best 10 = .ok (.iload_n 2, 1) := by decide +kernel
theorem dX7_best_11 : decode cX7_best 11 = .ok (.iconst 1, 1) := by decide +kernel
theorem dX7_best_12 : decode cX7_best 12 = .ok (.bipush 12, 2) := by decide +kernel
theorem dX7_best_14 : decode cX7_best 14 = .ok (.invokestatic 38, 3) := by decide +kernel
theorem dX7_best_17 : decode cX7_best 17 = .ok (.ifCond .ne 6, 3) := by decide +kernel
theorem dX7_best_20 : decode cX7_best 20 = .ok (.bipush (-102), 2) := by decide +kernel
theorem dX7_best_22 : decode cX7_best 22 = .ok (.ireturn, 1) := by decide +kernel
theorem dX7_best_23 : decode cX7_best 23 = .ok (.aload_n 0, 1) := by decide +kernel
theorem dX7_best_24 : decode cX7_best 24 = .ok (.getfield 67, 3) := by decide +kernel
theorem dX7_best_27 : decode cX7_best 27 = .ok (.bipush 30, 2) := by decide +kernel
theorem dX7_best_29 : decode cX7_best 29 = .ok (.if_icmp .ne 6, 3) := by decide +kernel
theorem dX7_best_32 : decode cX7_best 32 = .ok (.bipush (-104), 2) := by decide +kernel
theorem dX7_best_34 : decode cX7_best 34 = .ok (.ireturn, 1) := by decide +kernel
theorem dX7_best_35 : decode cX7_best 35 = .ok (.aload_n 0, 1) := by decide +kernel
theorem dX7_best_36 : decode cX7_best 36 = .ok (.dup, 1) := by decide +kernel
theorem dX7_best_37 : decode cX7_best 37 = .ok (.getfield 67, 3) := by decide +kernel
theorem dX7_best_40 : decode cX7_best 40 = .ok (.iconst 1, 1) := by decide +kernel
theorem dX7_best_41 : decode cX7_best 41 = .ok (.iadd, 1) := by decide +kernel
theorem dX7_best_42 : decode cX7_best 42 = .ok (.putfield 67, 3) := by decide +kernel
theorem dX7_best_45 : decode cX7_best 45 = .ok (.aload_n 0, 1) := by decide +kernel
theorem dX7_best_46 : decode cX7_best 46 = .ok (.getfield 7, 3) := by decide +kernel
theorem dX7_best_49 : decode cX7_best 49 = .ok (.iload_n 1, 1) := by decide +kernel
theorem dX7_best_50 : decode cX7_best 50 = .ok (.iload_n 2, 1) := by decide +kernel
theorem dX7_best_51 : decode cX7_best 51 = .ok (.iastore, 1) := by decide +kernel
theorem dX7_best_52 : decode cX7_best 52 = .ok (.iconst (-1), 1) := by decide +kernel
theorem dX7_best_53 : decode cX7_best 53 = .ok (.istore_n 3, 1) := by decide +kernel
theorem dX7_best_54 : decode cX7_best 54 = .ok (.iconst 0, 1) := by decide +kernel
theorem dX7_best_55 : decode cX7_best 55 = .ok (.istore 4, 2) := by decide +kernel
theorem dX7_best_57 : decode cX7_best 57 = .ok (.iconst 0, 1) := by decide +kernel
theorem dX7_best_58 : decode cX7_best 58 = .ok (.istore 5, 2) := by decide +kernel
theorem dX7_best_60 : decode cX7_best 60 = .ok (.iconst 0, 1) := by decide +kernel
theorem dX7_best_61 : decode cX7_best 61 = .ok (.istore 6, 2) := by decide +kernel
theorem dX7_best_63 : decode cX7_best 63 = .ok (.iload 6, 2) := by decide +kernel
theorem dX7_best_65 : decode cX7_best 65 = .ok (.iconst 1, 1) := by decide +kernel
theorem dX7_best_66 : decode cX7_best 66 = .ok (.iload_n 2, 1) := by decide +kernel
theorem dX7_best_67 : decode cX7_best 67 = .ok (.ishl, 1) := by decide +kernel
theorem dX7_best_68 : decode cX7_best 68 = .ok (.if_icmp .ge 71, 3) := by decide +kernel
theorem dX7_best_71 : decode cX7_best 71 = .ok (.aload_n 0, 1) := by decide +kernel
theorem dX7_best_72 : decode cX7_best 72 = .ok (.iload_n 1, 1) := by decide +kernel
theorem dX7_best_73 : decode cX7_best 73 = .ok (.iload_n 2, 1) := by decide +kernel
theorem dX7_best_74 : decode cX7_best 74 = .ok (.iload 6, 2) := by decide +kernel
theorem dX7_best_76 : decode cX7_best 76 = .ok (.invokevirtual 70, 3) := by decide +kernel
theorem dX7_best_79 : decode cX7_best 79 = .ok (.aload_n 0, 1) := by decide +kernel
theorem dX7_best_80 : decode cX7_best 80 = .ok (.iload_n 1, 1) := by decide +kernel
theorem dX7_best_81 : decode cX7_best 81 = .ok (.invokevirtual 60, 3) := by decide +kernel
theorem dX7_best_84 : decode cX7_best 84 = .ok (.istore 7, 2) := by decide +kernel
theorem dX7_best_86 : decode cX7_best 86 = .ok (.iload_n 3, 1) := by decide +kernel
theorem dX7_best_87 : decode cX7_best 87 = .ok (.iconst (-1), 1) := by decide +kernel
theorem dX7_best_88 : decode cX7_best 88 = .ok (.if_icmp .eq 9, 3) := by decide +kernel
theorem dX7_best_91 : decode cX7_best 91 = .ok (.iload 7, 2) := by decide +kernel
theorem dX7_best_93 : decode cX7_best 93 = .ok (.iload_n 3, 1) := by decide +kernel
theorem dX7_best_94 : decode cX7_best 94 = .ok (.if_icmp .gt 39, 3) := by decide +kernel
theorem dX7_best_97 : decode cX7_best 97 = .ok (.aload_n 0, 1) := by decide +kernel
theorem dX7_best_98 : decode cX7_best 98 = .ok (.iload_n 1, 1) := by decide +kernel
theorem dX7_best_99 : decode cX7_best 99 = .ok (.invokevirtual 64, 3) := by decide +kernel
theorem dX7_best_102 : decode cX7_best 102 = .ok (.istore 8, 2) := by decide +kernel
theorem dX7_best_104 : decode cX7_best 104 = .ok (.iload_n 3, 1) := by decide +kernel
theorem dX7_best_105 : decode cX7_best 105 = .ok (.iconst (-1), 1) := by decide +kernel
theorem dX7_best_106 : decode cX7_best 106 = .ok (.if_icmp .eq 16, 3) := by decide +kernel
theorem dX7_best_109 : decode cX7_best 109 = .ok (.iload 7, 2) := by decide +kernel
theorem dX7_best_111 : decode cX7_best 111 = .ok (.iload_n 3, 1) := by decide +kernel
theorem dX7_best_112 : decode cX7_best 112 = .ok (.if_icmp .lt 10, 3) := by decide +kernel
theorem dX7_best_115 : decode cX7_best 115 = .ok (.iload 8, 2) := by decide +kernel
theorem dX7_best_117 : decode cX7_best 117 = .ok (.iload 4, 2) := by decide +kernel
theorem dX7_best_119 : decode cX7_best 119 = .ok (.if_icmp .ge 14, 3) := by decide +kernel
theorem dX7_best_122 : decode cX7_best 122 = .ok (.iload 7, 2) := by decide +kernel
theorem dX7_best_124 : decode cX7_best 124 = .ok (.istore_n 3, 1) := by decide +kernel
theorem dX7_best_125 : decode cX7_best 125 = .ok (.iload 8, 2) := by decide +kernel
theorem dX7_best_127 : decode cX7_best 127 = .ok (.istore 4, 2) := by decide +kernel
theorem dX7_best_129 : decode cX7_best 129 = .ok (.iload 6, 2) := by decide +kernel
theorem dX7_best_131 : decode cX7_best 131 = .ok (.istore 5, 2) := by decide +kernel
theorem dX7_best_133 : decode cX7_best 133 = .ok (.iinc 6 1, 3) := by decide +kernel
theorem dX7_best_136 : decode cX7_best 136 = .ok (.goto (-73), 3) := by decide +kernel
theorem dX7_best_139 : decode cX7_best 139 = .ok (.aload_n 0, 1) := by decide +kernel
theorem dX7_best_140 : decode cX7_best 140 = .ok (.iload_n 1, 1) := by decide +kernel
theorem dX7_best_141 : decode cX7_best 141 = .ok (.iload_n 2, 1) := by decide +kernel
theorem dX7_best_142 : decode cX7_best 142 = .ok (.iload 5, 2) := by decide +kernel
theorem dX7_best_144 : decode cX7_best 144 = .ok (.invokevirtual 70, 3) := by decide +kernel
theorem dX7_best_147 : decode cX7_best 147 = .ok (.iload_n 3, 1) := by decide +kernel
theorem dX7_best_148 : decode cX7_best 148 = .ok (.ireturn, 1) := by decide +kernel
set_option maxRecDepth 20000 in
theorem ggX7_pair_X7_isSign : GoodIn wsX7_pair wsX7_isSign := goodIn_r _ [7, 8, 9, 6, 10] (by decide +kernel) (by decide +kernel)
set_option maxRecDepth 20000 in
theorem gX7_pair_X7_isSign : GoodIn wsX7_pair (va_wsS RX7 42 yX7_isSign wsX7_isSign) := goodIn_app (goodIn_of _ (by decide +kernel)) ggX7_pair_X7_isSign
set_option maxRecDepth 20000 in
theorem ggX7_pair_X7_looks : GoodIn wsX7_pair wsX7_looks := goodIn_r _ [14, 2, 3, 1, 15, 8, 9, 6, 10, 16, 17, 18, 19, 20, 21, 22, 23, 24, 25, 26, 27, 28, 29, 30, 31, 32, 33, 34, 35] (by decide +kernel) (by decide +kernel)
set_option maxRecDepth 20000 in
theorem gX7_pair_X7_looks : GoodIn wsX7_pair (wsV RX7 56 RX7 yX7_looks wsX7_looks) := goodIn_app (goodIn_of _ (by decide +kernel)) ggX7_pair_X7_looks
theorem dX7_pair_0 : decode cX7_pair 0 = .ok (.iload_n 1, 1) := by decide +kernel
theorem dX7_pair_1 : decode cX7_pair 1 = .ok (.invokestatic 42, 3) := by decide +kernel
theorem dX7_pair_4 : decode cX7_pair 4 = .ok (.ifCond .eq 10, 3) := by decide +kernel
theorem dX7_pair_7 : decode cX7_pair 7 = .ok (.iload_n 2, 1) := by decide +kernel
theorem dX7_pair_8 : decode cX7_pair 8 = .ok (.invokestatic 42, 3) := by decide +kernel
theorem dX7_pair_11 : decode cX7_pair 11 = .ok (.ifCond .ne 6, 3) := by decide +kernel
theorem dX7_pair_14 : decode cX7_pair 14 = .ok (.bipush (-101), 2) := by decide +kernel
theorem dX7_pair_16 : decode cX7_pair 16 = .ok (.ireturn, 1) := by decide +kernel
theorem dX7_pair_17 : decode cX7_pair 17 = .ok (.aload_n 0, 1) := by decide +kernel
theorem dX7_pair_18 : decode cX7_pair 18 = .ok (.getfield 7, 3) := by decide +kernel
theorem dX7_pair_21 : decode cX7_pair 21 = .ok (.iload_n 1, 1) := by decide +kernel
theorem dX7_pair_22 : decode cX7_pair 22 = .ok (.iaload, 1) := by decide +kernel
theorem dX7_pair_23 : decode cX7_pair 23 = .ok (.aload_n 0, 1) := by decide +kernel
theorem dX7_pair_24 : decode cX7_pair 24 = .ok (.getfield 7, 3) := by decide +kernel
theorem dX7_pair_27 : decode cX7_pair 27 = .ok (.iload_n 2, 1) := by decide +kernel
theorem dX7_pair_28 : decode cX7_pair 28 = .ok (.iaload, 1) := by decide +kernel
theorem dX7_pair_29 : decode cX7_pair 29 = .ok (.if_icmp .eq 5, 3) := by decide +kernel
theorem dX7_pair_32 : decode cX7_pair 32 = .ok (.iconst 0, 1) := by decide +kernel
theorem dX7_pair_33 : decode cX7_pair 33 = .ok (.ireturn, 1) := by decide +kernel
theorem dX7_pair_34 : decode cX7_pair 34 = .ok (.iconst 1, 1) := by decide +kernel
theorem dX7_pair_35 : decode cX7_pair 35 = .ok (.istore_n 3, 1) := by decide +kernel
theorem dX7_pair_36 : decode cX7_pair 36 = .ok (.iconst 1, 1) := by decide +kernel
theorem dX7_pair_37 : decode cX7_pair 37 = .ok (.istore 4, 2) := by decide +kernel
theorem dX7_pair_39 : decode cX7_pair 39 = .ok (.iload 4, 2) := by decide +kernel
theorem dX7_pair_41 : decode cX7_pair 41 = .ok (.aload_n 0, 1) := by decide +kernel
theorem dX7_pair_42 : decode cX7_pair 42 = .ok (.getfield 7, 3) := by decide +kernel
theorem dX7_pair_45 : decode cX7_pair 45 = .ok (.iload_n 1, 1) := by decide +kernel
theorem dX7_pair_46 : decode cX7_pair 46 = .ok (.iaload, 1) := by decide +kernel
theorem dX7_pair_47 : decode cX7_pair 47 = .ok (.if_icmp .ge 71, 3) := by decide +kernel
theorem dX7_pair_50 : decode cX7_pair 50 = .ok (.iload_n 3, 1) := by decide +kernel
theorem dX7_pair_51 : decode cX7_pair 51 = .ok (.ifCond .eq 67, 3) := by decide +kernel
theorem dX7_pair_54 : decode cX7_pair 54 = .ok (.aload_n 0, 1) := by decide +kernel
theorem dX7_pair_55 : decode cX7_pair 55 = .ok (.iload_n 1, 1) := by decide +kernel
theorem dX7_pair_56 : decode cX7_pair 56 = .ok (.iload_n 1, 1) := by decide +kernel
theorem dX7_pair_57 : decode cX7_pair 57 = .ok (.iload 4, 2) := by decide +kernel
theorem dX7_pair_59 : decode cX7_pair 59 = .ok (.iconst 0, 1) := by decide +kernel
theorem dX7_pair_60 : decode cX7_pair 60 = .ok (.invokevirtual 56, 3) := by decide +kernel
theorem dX7_pair_63 : decode cX7_pair 63 = .ok (.pop, 1) := by decide +kernel
theorem dX7_pair_64 : decode cX7_pair 64 = .ok (.aload_n 0, 1) := by decide +kernel
theorem dX7_pair_65 : decode cX7_pair 65 = .ok (.getfield 46, 3) := by decide +kernel
theorem dX7_pair_68 : decode cX7_pair 68 = .ok (.istore 5, 2) := by decide +kernel
theorem dX7_pair_70 : decode cX7_pair 70 = .ok (.aload_n 0, 1) := by decide +kernel
theorem dX7_pair_71 : decode cX7_pair 71 = .ok (.getfield 49, 3) := by decide +kernel
theorem dX7_pair_74 : decode cX7_pair 74 = .ok (.istore 6, 2) := by decide +kernel
theorem dX7_pair_76 : decode cX7_pair 76 = .ok (.aload_n 0, 1) := by decide +kernel
theorem dX7_pair_77 : decode cX7_pair 77 = .ok (.iload_n 2, 1) := by decide +kernel
theorem dX7_pair_78 : decode cX7_pair 78 = .ok (.iload_n 2, 1) := by decide +kernel
theorem dX7_pair_79 : decode cX7_pair 79 = .ok (.iload 4, 2) := by decide +kernel
theorem dX7_pair_81 : decode cX7_pair 81 = .ok (.iconst 0, 1) := by decide +kernel
theorem dX7_pair_82 : decode cX7_pair 82 = .ok (.invokevirtual 56, 3) := by decide +kernel
theorem dX7_pair_85 : decode cX7_pair 85 = .ok (.pop, 1) := by decide +kernel
theorem dX7_pair_86 : decode cX7_pair 86 = .ok (.iload 5, 2) := by decide +kernel
theorem dX7_pair_88 : decode cX7_pair 88 = .ok (.aload_n 0, 1) := by decide +kernel
theorem dX7_pair_89 : decode cX7_pair 89 = .ok (.getfield 46, 3) := by decide +kernel
theorem dX7_pair_92 : decode cX7_pair 92 = .ok (.iadd, 1) := by decide +kernel
theorem dX7_pair_93 : decode cX7_pair 93 = .ok (.ifCond .ne 17, 3) := by decide +kernel
theorem dX7_pair_96 : decode cX7_pair 96 = .ok (.iload 6, 2) := by decide +kernel
theorem dX7_pair_98 : decode cX7_pair 98 = .ok (.aload_n 0, 1) := by decide +kernel
theorem dX7_pair_99 : decode cX7_pair 99 = .ok (.getfield 49, 3) := by decide +kernel
theorem dX7_pair_102 : decode cX7_pair 102 = .ok (.iadd, 1) := by decide +kernel
theorem dX7_pair_103 : decode cX7_pair 103 = .ok (.ifCond .ne 7, 3) := by decide +kernel
theorem dX7_pair_106 : decode cX7_pair 106 = .ok (.iconst 1, 1) := by decide +kernel
theorem dX7_pair_107 : decode cX7_pair 107 = .ok (.goto 4, 3) := by decide +kernel
theorem dX7_pair_110 : decode cX7_pair 110 = .ok (.iconst 0, 1) := by decide +kernel
theorem dX7_pair_111 : decode cX7_pair 111 = .ok (.istore_n 3, 1) := by decide +kernel
theorem dX7_pair_112 : decode cX7_pair 112 = .ok (.iinc 4 1, 3) := by decide +kernel
theorem dX7_pair_115 : decode cX7_pair 115 = .ok (.goto (-76), 3) := by decide +kernel
theorem dX7_pair_118 : decode cX7_pair 118 = .ok (.iload_n 3, 1) := by decide +kernel
theorem dX7_pair_119 : decode cX7_pair 119 = .ok (.ifCond .eq 7, 3) := by decide +kernel
theorem dX7_pair_122 : decode cX7_pair 122 = .ok (.iconst 1, 1) := by decide +kernel
theorem dX7_pair_123 : decode cX7_pair 123 = .ok (.goto 4, 3) := by decide +kernel
theorem dX7_pair_126 : decode cX7_pair 126 = .ok (.iconst 0, 1) := by decide +kernel
theorem dX7_pair_127 : decode cX7_pair 127 = .ok (.ireturn, 1) := by decide +kernel
set_option maxRecDepth 20000 in
theorem ggX7_filter_X7_in : GoodIn wsX7_filter wsX7_in := goodIn_r _ [6] (by decide +kernel) (by decide +kernel)
set_option maxRecDepth 20000 in
theorem gX7_filter_X7_in : GoodIn wsX7_filter (va_wsS RX7 38 yX7_in wsX7_in) := goodIn_app (goodIn_of _ (by decide +kernel)) ggX7_filter_X7_in
theorem dX7_filter_0 : decode cX7_filter 0 = .ok (.iload_n 1, 1) := by decide +kernel
theorem dX7_filter_1 : decode cX7_filter 1 = .ok (.iconst 1, 1) := by decide +kernel
theorem dX7_filter_2 : decode cX7_filter 2 = .ok (.bipush 24, 2) := by decide +kernel
theorem dX7_filter_4 : decode cX7_filter 4 = .ok (.invokestatic 38, 3) := by decide +kernel
theorem dX7_filter_7 : decode cX7_filter 7 = .ok (.ifCond .ne 6, 3) := by decide +kernel
theorem dX7_filter_10 : decode cX7_filter 10 = .ok (.bipush (-102), 2) := by decide +kernel
theorem dX7_filter_12 : decode cX7_filter 12 = .ok (.ireturn, 1) := by decide +kernel
theorem dX7_filter_13 : decode cX7_filter 13 = .ok (.aload_n 0, 1) := by decide +kernel
theorem dX7_filter_14 : decode cX7_filter 14 = .ok (.iload_n 1, 1) := by decide +kernel
theorem dX7_filter_15 : decode cX7_filter 15 = .ok (.putfield 16, 3) := by decide +kernel
theorem dX7_filter_18 : decode cX7_filter 18 = .ok (.iconst 0, 1) := by decide +kernel
theorem dX7_filter_19 : decode cX7_filter 19 = .ok (.istore_n 2, 1) := by decide +kernel
theorem dX7_filter_20 : decode cX7_filter 20 = .ok (.iload_n 2, 1) := by decide +kernel
theorem dX7_filter_21 : decode cX7_filter 21 = .ok (.bipush 24, 2) := by decide +kernel
theorem dX7_filter_23 : decode cX7_filter 23 = .ok (.if_icmp .ge 16, 3) := by decide +kernel
theorem dX7_filter_26 : decode cX7_filter 26 = .ok (.aload_n 0, 1) := by decide +kernel
theorem dX7_filter_27 : decode cX7_filter 27 = .ok (.getfield 20, 3) := by decide +kernel
theorem dX7_filter_30 : decode cX7_filter 30 = .ok (.iload_n 2, 1) := by decide +kernel
theorem dX7_filter_31 : decode cX7_filter 31 = .ok (.iconst 0, 1) := by decide +kernel
theorem dX7_filter_32 : decode cX7_filter 32 = .ok (.iastore, 1) := by decide +kernel
theorem dX7_filter_33 : decode cX7_filter 33 = .ok (.iinc 2 1, 3) := by decide +kernel
theorem dX7_filter_36 : decode cX7_filter 36 = .ok (.goto (-16), 3) := by decide +kernel
theorem dX7_filter_39 : decode cX7_filter 39 = .ok (.iload_n 1, 1) := by decide +kernel
theorem dX7_filter_40 : decode cX7_filter 40 = .ok (.ireturn, 1) := by decide +kernel
set_option maxRecDepth 20000 in
theorem ggX7_weight_X7_in : GoodIn wsX7_weight wsX7_in := goodIn_r _ [6] (by decide +kernel) (by decide +kernel)
set_option maxRecDepth 20000 in
theorem gX7_weight_X7_in : GoodIn wsX7_weight (va_wsS RX7 38 yX7_in wsX7_in) := goodIn_app (goodIn_of _ (by decide +kernel)) ggX7_weight_X7_in
theorem dX7_weight_0 : decode cX7_weight 0 = .ok (.iload_n 1, 1) := by decide +kernel
theorem dX7_weight_1 : decode cX7_weight 1 = .ok (.iconst 0, 1) := by decide +kernel
theorem dX7_weight_2 : decode cX7_weight 2 = .ok (.aload_n 0, 1) := by decide +kernel
theorem dX7_weight_3 : decode cX7_weight 3 = .ok (.getfield 16, 3) := by decide +kernel
theorem dX7_weight_6 : decode cX7_weight 6 = .ok (.iconst 1, 1) := by decide +kernel
theorem dX7_weight_7 : decode cX7_weight 7 = .ok (.isub, 1) := by decide +kernel
theorem dX7_weight_8 : decode cX7_weight 8 = .ok (.invokestatic 38, 3) := by decide +kernel
theorem dX7_weight_11 : decode cX7_weight 11 = .ok (.ifCond .ne 7, 3) := by decide +kernel
theorem dX7_weight_14 : decode cX7_weight 14 = .ok (.sipush (-1000), 3) := by decide +kernel
theorem dX7_weight_17 : decode cX7_weight 17 = .ok (.ireturn, 1) := by decide +kernel
theorem dX7_weight_18 : decode cX7_weight 18 = .ok (.iload_n 2, 1) := by decide +kernel
theorem dX7_weight_19 : decode cX7_weight 19 = .ok (.bipush (-50), 2) := by decide +kernel
theorem dX7_weight_21 : decode cX7_weight 21 = .ok (.bipush 50, 2) := by decide +kernel
theorem dX7_weight_23 : decode cX7_weight 23 = .ok (.invokestatic 38, 3) := by decide +kernel
theorem dX7_weight_26 : decode cX7_weight 26 = .ok (.ifCond .ne 7, 3) := by decide +kernel
theorem dX7_weight_29 : decode cX7_weight 29 = .ok (.sipush (-1001), 3) := by decide +kernel
theorem dX7_weight_32 : decode cX7_weight 32 = .ok (.ireturn, 1) := by decide +kernel
theorem dX7_weight_33 : decode cX7_weight 33 = .ok (.aload_n 0, 1) := by decide +kernel
theorem dX7_weight_34 : decode cX7_weight 34 = .ok (.getfield 20, 3) := by decide +kernel
theorem dX7_weight_37 : decode cX7_weight 37 = .ok (.iload_n 1, 1) := by decide +kernel
theorem dX7_weight_38 : decode cX7_weight 38 = .ok (.iaload, 1) := by decide +kernel
theorem dX7_weight_39 : decode cX7_weight 39 = .ok (.istore_n 3, 1) := by decide +kernel
theorem dX7_weight_40 : decode cX7_weight 40 = .ok (.aload_n 0, 1) := by decide +kernel
theorem dX7_weight_41 : decode cX7_weight 41 = .ok (.getfield 20, 3) := by decide +kernel
theorem dX7_weight_44 : decode cX7_weight 44 = .ok (.iload_n 1, 1) := by decide +kernel
theorem dX7_weight_45 : decode cX7_weight 45 = .ok (.iload_n 2, 1) := by decide +kernel
theorem dX7_weight_46 : decode cX7_weight 46 = .ok (.iastore, 1) := by decide +kernel
theorem dX7_weight_47 : decode cX7_weight 47 = .ok (.iload_n 3, 1) := by decide +kernel
theorem dX7_weight_48 : decode cX7_weight 48 = .ok (.ireturn, 1) := by decide +kernel
set_option maxRecDepth 20000 in
theorem ggX7_own_X7_isSign : GoodIn wsX7_own wsX7_isSign := goodIn_r _ [8, 9, 10, 7, 11] (by decide +kernel) (by decide +kernel)
set_option maxRecDepth 20000 in
theorem gX7_own_X7_isSign : GoodIn wsX7_own (va_wsS RX7 42 yX7_isSign wsX7_isSign) := goodIn_app (goodIn_of _ (by decide +kernel)) ggX7_own_X7_isSign
theorem dX7_own_0 : decode cX7_own 0 = .ok (.iload_n 1, 1) := by decide +kernel
theorem dX7_own_1 : decode cX7_own 1 = .ok (.invokestatic 42, 3) := by decide +kernel
theorem dX7_own_4 : decode cX7_own 4 = .ok (.ifCond .ne 6, 3) := by decide +kernel
theorem dX7_own_7 : decode cX7_own 7 = .ok (.bipush (-101), 2) := by decide +kernel
theorem dX7_own_9 : decode cX7_own 9 = .ok (.ireturn, 1) := by decide +kernel
theorem dX7_own_10 : decode cX7_own 10 = .ok (.aload_n 0, 1) := by decide +kernel
theorem dX7_own_11 : decode cX7_own 11 = .ok (.aload_n 0, 1) := by decide +kernel
theorem dX7_own_12 : decode cX7_own 12 = .ok (.getfield 7, 3) := by decide +kernel
theorem dX7_own_15 : decode cX7_own 15 = .ok (.iload_n 1, 1) := by decide +kernel
theorem dX7_own_16 : decode cX7_own 16 = .ok (.iaload, 1) := by decide +kernel
theorem dX7_own_17 : decode cX7_own 17 = .ok (.putfield 16, 3) := by decide +kernel
theorem dX7_own_20 : decode cX7_own 20 = .ok (.iconst 0, 1) := by decide +kernel
theorem dX7_own_21 : decode cX7_own 21 = .ok (.istore_n 2, 1) := by decide +kernel
theorem dX7_own_22 : decode cX7_own 22 = .ok (.iload_n 2, 1) := by decide +kernel
theorem dX7_own_23 : decode cX7_own 23 = .ok (.bipush 24, 2) := by decide +kernel
theorem dX7_own_25 : decode cX7_own 25 = .ok (.if_icmp .ge 64, 3) := by decide +kernel
theorem dX7_own_28 : decode cX7_own 28 = .ok (.iload_n 2, 1) := by decide +kernel
theorem dX7_own_29 : decode cX7_own 29 = .ok (.aload_n 0, 1) := by decide +kernel
theorem dX7_own_30 : decode cX7_own 30 = .ok (.getfield 16, 3) := by decide +kernel
theorem dX7_own_33 : decode cX7_own 33 = .ok (.if_icmp .ge 24, 3) := by decide +kernel
theorem dX7_own_36 : decode cX7_own 36 = .ok (.aload_n 0, 1) := by decide +kernel
theorem dX7_own_37 : decode cX7_own 37 = .ok (.getfield 13, 3) := by decide +kernel
theorem dX7_own_40 : decode cX7_own 40 = .ok (.bipush 16, 2) := by decide +kernel
theorem dX7_own_42 : decode cX7_own 42 = .ok (.iload_n 1, 1) := by decide +kernel
theorem dX7_own_43 : decode cX7_own 43 = .ok (.imul, 1) := by decide +kernel
theorem dX7_own_44 : decode cX7_own 44 = .ok (.aload_n 0, 1) := by decide +kernel
theorem dX7_own_45 : decode cX7_own 45 = .ok (.getfield 16, 3) := by decide +kernel
theorem dX7_own_48 : decode cX7_own 48 = .ok (.iadd, 1) := by decide +kernel
theorem dX7_own_49 : decode cX7_own 49 = .ok (.iconst 1, 1) := by decide +kernel
theorem dX7_own_50 : decode cX7_own 50 = .ok (.isub, 1) := by decide +kernel
theorem dX7_own_51 : decode cX7_own 51 = .ok (.iload_n 2, 1) := by decide +kernel
theorem dX7_own_52 : decode cX7_own 52 = .ok (.isub, 1) := by decide +kernel
theorem dX7_own_53 : decode cX7_own 53 = .ok (.iaload, 1) := by decide +kernel
theorem dX7_own_54 : decode cX7_own 54 = .ok (.goto 4, 3) := by decide +kernel
theorem dX7_own_57 : decode cX7_own 57 = .ok (.iconst 1, 1) := by decide +kernel
theorem dX7_own_58 : decode cX7_own 58 = .ok (.istore_n 3, 1) := by decide +kernel
theorem dX7_own_59 : decode cX7_own 59 = .ok (.aload_n 0, 1) := by decide +kernel
theorem dX7_own_60 : decode cX7_own 60 = .ok (.getfield 20, 3) := by decide +kernel
theorem dX7_own_63 : decode cX7_own 63 = .ok (.iload_n 2, 1) := by decide +kernel
theorem dX7_own_64 : decode cX7_own 64 = .ok (.iload_n 3, 1) := by decide +kernel
theorem dX7_own_65 : decode cX7_own 65 = .ok (.ifCond .ne 7, 3) := by decide +kernel
theorem dX7_own_68 : decode cX7_own 68 = .ok (.iconst 1, 1) := by decide +kernel
theorem dX7_own_69 : decode cX7_own 69 = .ok (.goto 13, 3) := by decide +kernel
theorem dX7_own_72 : decode cX7_own 72 = .ok (.iload_n 3, 1) := by decide +kernel
theorem dX7_own_73 : decode cX7_own 73 = .ok (.iconst 2, 1) := by decide +kernel
theorem dX7_own_74 : decode cX7_own 74 = .ok (.if_icmp .ne 7, 3) := by decide +kernel
theorem dX7_own_77 : decode cX7_own 77 = .ok (.iconst (-1), 1) := by decide +kernel
theorem dX7_own_78 : decode cX7_own 78 = .ok (.goto 4, 3) := by decide +kernel
theorem dX7_own_81 : decode cX7_own 81 = .ok (.iconst 0, 1) := by decide +kernel
theorem dX7_own_82 : decode cX7_own 82 = .ok (.iastore, 1) := by decide +kernel
theorem dX7_own_83 : decode cX7_own 83 = .ok (.iinc 2 1, 3) := by decide +kernel
theorem dX7_own_86 : decode cX7_own 86 = .ok (.goto (-64), 3) := by decide +kernel
theorem dX7_own_89 : decode cX7_own 89 = .ok (.aload_n 0, 1) := by decide +kernel
theorem dX7_own_90 : decode cX7_own 90 = .ok (.getfield 16, 3) := by decide +kernel
theorem dX7_own_93 : decode cX7_own 93 = .ok (.ireturn, 1) := by decide +kernel
set_option maxRecDepth 20000 in
theorem ggX7_answers_X7_in : GoodIn wsX7_answers wsX7_in := goodIn_r _ [10] (by decide +kernel) (by decide +kernel)
set_option maxRecDepth 20000 in
theorem gX7_answers_X7_in : GoodIn wsX7_answers (va_wsS RX7 38 yX7_in wsX7_in) := goodIn_app (goodIn_of _ (by decide +kernel)) ggX7_answers_X7_in
set_option maxRecDepth 20000 in
theorem ggX7_answers_X7_add : GoodIn wsX7_answers wsX7_add := goodIn_r _ [14, 1, 2, 15, 16, 17, 18, 19, 20, 21, 22, 23, 24, 25, 26, 27, 28, 29, 30] (by decide +kernel) (by decide +kernel)
set_option maxRecDepth 20000 in
theorem gX7_answers_X7_add : GoodIn wsX7_answers (wsV RX7 52 RX7 yX7_add wsX7_add) := goodIn_app (goodIn_of _ (by decide +kernel)) ggX7_answers_X7_add
theorem dX7_answers_0 : decode cX7_answers 0 = .ok (.aload_n 0, 1) := by decide +kernel
theorem dX7_answers_1 : decode cX7_answers 1 = .ok (.iconst 0, 1) := by decide +kernel
theorem dX7_answers_2 : decode cX7_answers 2 = .ok (.putfield 46, 3) := by decide +kernel
theorem dX7_answers_5 : decode cX7_answers 5 = .ok (.aload_n 0, 1) := by decide +kernel
theorem dX7_answers_6 : decode cX7_answers 6 = .ok (.iconst 0, 1) := by decide +kernel
theorem dX7_answers_7 : decode cX7_answers 7 = .ok (.putfield 49, 3) := by decide +kernel
theorem dX7_answers_10 : decode cX7_answers 10 = .ok (.iconst 0, 1) := by decide +kernel
theorem dX7_answers_11 : decode cX7_answers 11 = .ok (.istore_n 3, 1) := by decide +kernel
theorem dX7_answers_12 : decode cX7_answers 12 = .ok (.iload_n 3, 1) := by decide +kernel
theorem dX7_answers_13 : decode cX7_answers 13 = .ok (.aload_n 0, 1) := by decide +kernel
theorem dX7_answers_14 : decode cX7_answers 14 = .ok (.getfield 16, 3) := by decide +kernel
theorem dX7_answers_17 : decode cX7_answers 17 = .ok (.if_icmp .ge 50, 3) := by decide +kernel
theorem dX7_answers_20 : decode cX7_answers 20 = .ok (.iload_n 2, 1) := by decide +kernel
theorem dX7_answers_21 : decode cX7_answers 21 = .ok (.iload_n 3, 1) := by decide +kernel
theorem dX7_answers_22 : decode cX7_answers 22 = .ok (.isub, 1) := by decide +kernel
theorem dX7_answers_23 : decode cX7_answers 23 = .ok (.iconst 0, 1) := by decide +kernel
theorem dX7_answers_24 : decode cX7_answers 24 = .ok (.aload_n 0, 1) := by decide +kernel
theorem dX7_answers_25 : decode cX7_answers 25 = .ok (.getfield 7, 3) := by decide +kernel
theorem dX7_answers_28 : decode cX7_answers 28 = .ok (.iload_n 1, 1) := by decide +kernel
theorem dX7_answers_29 : decode cX7_answers 29 = .ok (.iaload, 1) := by decide +kernel
theorem dX7_answers_30 : decode cX7_answers 30 = .ok (.iconst 1, 1) := by decide +kernel
theorem dX7_answers_31 : decode cX7_answers 31 = .ok (.isub, 1) := by decide +kernel
theorem dX7_answers_32 : decode cX7_answers 32 = .ok (.invokestatic 38, 3) := by decide +kernel
theorem dX7_answers_35 : decode cX7_answers 35 = .ok (.ifCond .eq 26, 3) := by decide +kernel
theorem dX7_answers_38 : decode cX7_answers 38 = .ok (.aload_n 0, 1) := by decide +kernel
theorem dX7_answers_39 : decode cX7_answers 39 = .ok (.aload_n 0, 1) := by decide +kernel
theorem dX7_answers_40 : decode cX7_answers 40 = .ok (.getfield 13, 3) := by decide +kernel
theorem dX7_answers_43 : decode cX7_answers 43 = .ok (.bipush 16, 2) := by decide +kernel
theorem dX7_answers_45 : decode cX7_answers 45 = .ok (.iload_n 1, 1) := by decide +kernel
theorem dX7_answers_46 : decode cX7_answers 46 = .ok (.imul, 1) := by decide +kernel
theorem dX7_answers_47 : decode cX7_answers 47 = .ok (.iload_n 2, 1) := by decide +kernel
theorem dX7_answers_48 : decode cX7_answers 48 = .ok (.iadd, 1) := by decide +kernel
theorem dX7_answers_49 : decode cX7_answers 49 = .ok (.iload_n 3, 1) := by decide +kernel
theorem dX7_answers_50 : decode cX7_answers 50 = .ok (.isub, 1) := by decide +kernel
theorem dX7_answers_51 : decode cX7_answers 51 = .ok (.iaload, 1) := by decide +kernel
theorem dX7_answers_52 : decode cX7_answers 52 = .ok (.aload_n 0, 1) := by decide +kernel
theorem dX7_answers_53 : decode cX7_answers 53 = .ok (.getfield 20, 3) := by decide +kernel
theorem dX7_answers_56 : decode cX7_answers 56 = .ok (.iload_n 3, 1) := by decide +kernel
theorem dX7_answers_57 : decode cX7_answers 57 = .ok (.iaload, 1) := by decide +kernel
theorem dX7_answers_58 : decode cX7_answers 58 = .ok (.invokevirtual 52, 3) := by decide +kernel
theorem dX7_answers_61 : decode cX7_answers 61 = .ok (.iinc 3 1, 3) := by decide +kernel
theorem dX7_answers_64 : decode cX7_answers 64 = .ok (.goto (-52), 3) := by decide +kernel
theorem dX7_answers_67 : decode cX7_answers 67 = .ok (.aload_n 0, 1) := by decide +kernel
theorem dX7_answers_68 : decode cX7_answers 68 = .ok (.getfield 46, 3) := by decide +kernel
theorem dX7_answers_71 : decode cX7_answers 71 = .ok (.aload_n 0, 1) := by decide +kernel
theorem dX7_answers_72 : decode cX7_answers 72 = .ok (.getfield 46, 3) := by decide +kernel
theorem dX7_answers_75 : decode cX7_answers 75 = .ok (.imul, 1) := by decide +kernel
theorem dX7_answers_76 : decode cX7_answers 76 = .ok (.aload_n 0, 1) := by decide +kernel
theorem dX7_answers_77 : decode cX7_answers 77 = .ok (.getfield 49, 3) := by decide +kernel
theorem dX7_answers_80 : decode cX7_answers 80 = .ok (.aload_n 0, 1) := by decide +kernel
theorem dX7_answers_81 : decode cX7_answers 81 = .ok (.getfield 49, 3) := by decide +kernel
theorem dX7_answers_84 : decode cX7_answers 84 = .ok (.imul, 1) := by decide +kernel
theorem dX7_answers_85 : decode cX7_answers 85 = .ok (.iadd, 1) := by decide +kernel
theorem dX7_answers_86 : decode cX7_answers 86 = .ok (.ireturn, 1) := by decide +kernel
set_option maxRecDepth 20000 in
theorem ggX7_answer_X7_isSign : GoodIn wsX7_answer wsX7_isSign := goodIn_r _ [8, 9, 10, 7, 11] (by decide +kernel) (by decide +kernel)
set_option maxRecDepth 20000 in
theorem gX7_answer_X7_isSign : GoodIn wsX7_answer (va_wsS RX7 42 yX7_isSign wsX7_isSign) := goodIn_app (goodIn_of _ (by decide +kernel)) ggX7_answer_X7_isSign
set_option maxRecDepth 20000 in
theorem ggX7_answer_X7_in : GoodIn wsX7_answer wsX7_in := goodIn_r _ [11] (by decide +kernel) (by decide +kernel)
set_option maxRecDepth 20000 in
theorem gX7_answer_X7_in : GoodIn wsX7_answer (va_wsS RX7 38 yX7_in wsX7_in) := goodIn_app (goodIn_of _ (by decide +kernel)) ggX7_answer_X7_in
set_option maxRecDepth 20000 in
theorem ggX7_answer_X7_answers : GoodIn wsX7_answer wsX7_answers := goodIn_r _ [15, 3, 4, 16, 17, 18, 19, 9, 10, 7, 11, 20, 21, 22, 23, 24, 25, 26, 27, 28, 29, 30, 31, 32, 33, 34, 35, 36, 37, 38, 39] (by decide +kernel) (by decide +kernel)
set_option maxRecDepth 20000 in
theorem gX7_answer_X7_answers : GoodIn wsX7_answer (wsV RX7 76 RX7 yX7_answers wsX7_answers) := goodIn_app (goodIn_of _ (by decide +kernel)) ggX7_answer_X7_answers
theorem dX7_answer_0 : decode cX7_answer 0 = .ok (.iload_n 1, 1) := by decide +kernel
theorem dX7_answer_1 : decode cX7_answer 1 = .ok (.invokestatic 42, 3) := by decide +kernel
theorem dX7_answer_4 : decode cX7_answer 4 = .ok (.ifCond .ne 6, 3) := by decide +kernel
theorem dX7_answer_7 : decode cX7_answer 7 = .ok (.ldc 74, 2) := by decide +kernel
theorem dX7_answer_9 : decode cX7_answer 9 = .ok (.ireturn, 1) := by decide +kernel
theorem dX7_answer_10 : decode cX7_answer 10 = .ok (.iload_n 2, 1) := by decide +kernel
theorem dX7_answer_11 : decode cX7_answer 11 = .ok (.ifCond .lt 12, 3) := by decide +kernel
theorem dX7_answer_14 : decode cX7_answer 14 = .ok (.iload_n 3, 1) := by decide +kernel
theorem dX7_answer_15 : decode cX7_answer 15 = .ok (.iconst 0, 1) := by decide +kernel
theorem dX7_answer_16 : decode cX7_answer 16 = .ok (.iconst 1, 1) := by decide +kernel
theorem dX7_answer_17 : decode cX7_answer 17 = .ok (.invokestatic 38, 3) := by decide +kernel
theorem dX7_answer_20 : decode cX7_answer 20 = .ok (.ifCond .ne 6, 3) := by decide +kernel
theorem dX7_answer_23 : decode cX7_answer 23 = .ok (.ldc 75, 2) := by decide +kernel
theorem dX7_answer_25 : decode cX7_answer 25 = .ok (.ireturn, 1) := by decide +kernel
theorem dX7_answer_26 : decode cX7_answer 26 = .ok (.aload_n 0, 1) := by decide +kernel
theorem dX7_answer_27 : decode cX7_answer 27 = .ok (.iload_n 1, 1) := by decide +kernel
theorem dX7_answer_28 : decode cX7_answer 28 = .ok (.iload_n 2, 1) := by decide +kernel
theorem dX7_answer_29 : decode cX7_answer 29 = .ok (.bipush 100, 2) := by decide +kernel
theorem dX7_answer_31 : decode cX7_answer 31 = .ok (.if_icmp .ge 7, 3) := by decide +kernel
theorem dX7_answer_34 : decode cX7_answer 34 = .ok (.iload_n 2, 1) := by decide +kernel
theorem dX7_answer_35 : decode cX7_answer 35 = .ok (.goto 5, 3) := by decide +kernel
theorem dX7_answer_38 : decode cX7_answer 38 = .ok (.bipush 100, 2) := by decide +kernel
theorem dX7_answer_40 : decode cX7_answer 40 = .ok (.invokevirtual 76, 3) := by decide +kernel
theorem dX7_answer_43 : decode cX7_answer 43 = .ok (.pop, 1) := by decide +kernel
theorem dX7_answer_44 : decode cX7_answer 44 = .ok (.iload_n 3, 1) := by decide +kernel
theorem dX7_answer_45 : decode cX7_answer 45 = .ok (.ifCond .ne 10, 3) := by decide +kernel
theorem dX7_answer_48 : decode cX7_answer 48 = .ok (.aload_n 0, 1) := by decide +kernel
theorem dX7_answer_49 : decode cX7_answer 49 = .ok (.getfield 46, 3) := by decide +kernel
theorem dX7_answer_52 : decode cX7_answer 52 = .ok (.goto 7, 3) := by decide +kernel
theorem dX7_answer_55 : decode cX7_answer 55 = .ok (.aload_n 0, 1) := by decide +kernel
theorem dX7_answer_56 : decode cX7_answer 56 = .ok (.getfield 49, 3) := by decide +kernel
theorem dX7_answer_59 : decode cX7_answer 59 = .ok (.ireturn, 1) := by decide +kernel
set_option maxRecDepth 20000 in
theorem ggX7_greatestOf_X7_answers : GoodIn wsX7_greatestOf wsX7_answers := goodIn_r _ [7, 8, 9, 2, 1, 10, 11, 12, 13, 6, 14, 15, 16, 17, 18, 19, 20, 21, 22, 23, 24, 25, 26, 27, 28, 29, 30, 31, 32, 33, 34] (by decide +kernel) (by decide +kernel)
set_option maxRecDepth 20000 in
theorem gX7_greatestOf_X7_answers : GoodIn wsX7_greatestOf (wsV RX7 76 RX7 yX7_answers wsX7_answers) := goodIn_app (goodIn_of _ (by decide +kernel)) ggX7_greatestOf_X7_answers
theorem dX7_greatestOf_0 : decode cX7_greatestOf 0 = .ok (.iconst 0, 1) := by decide +kernel
theorem dX7_greatestOf_1 : decode cX7_greatestOf 1 = .ok (.istore_n 2, 1) := by decide +kernel
theorem dX7_greatestOf_2 : decode cX7_greatestOf 2 = .ok (.aload_n 0, 1) := by decide +kernel
theorem dX7_greatestOf_3 : decode cX7_greatestOf 3 = .ok (.iload_n 1, 1) := by decide +kernel
theorem dX7_greatestOf_4 : decode cX7_greatestOf 4 = .ok (.iconst 0, 1) := by decide +kernel
theorem dX7_greatestOf_5 : decode cX7_greatestOf 5 = .ok (.invokevirtual 76, 3) := by decide +kernel
theorem dX7_greatestOf_8 : decode cX7_greatestOf 8 = .ok (.istore_n 3, 1) := by decide +kernel
theorem dX7_greatestOf_9 : decode cX7_greatestOf 9 = .ok (.iconst 1, 1) := by decide +kernel
theorem dX7_greatestOf_10 : decode cX7_greatestOf 10 = .ok (.istore 4, 2) := by decide +kernel
theorem dX7_greatestOf_12 : decode cX7_greatestOf 12 = .ok (.iload 4, 2) := by decide +kernel
theorem dX7_greatestOf_14 : decode cX7_greatestOf 14 = .ok (.aload_n 0, 1) := by decide +kernel
theorem dX7_greatestOf_15 : decode cX7_greatestOf 15 = .ok (.getfield 7, 3) := by decide +kernel
theorem dX7_greatestOf_18 : decode cX7_greatestOf 18 = .ok (.iload_n 1, 1) := by decide +kernel
theorem dX7_greatestOf_19 : decode cX7_greatestOf 19 = .ok (.iaload, 1) := by decide +kernel
theorem dX7_greatestOf_20 : decode cX7_greatestOf 20 = .ok (.aload_n 0, 1) := by decide +kernel
theorem dX7_greatestOf_21 : decode cX7_greatestOf 21 = .ok (.getfield 16, 3) := by decide +kernel
theorem dX7_greatestOf_24 : decode cX7_greatestOf 24 = .ok (.iadd, 1) := by decide +kernel
theorem dX7_greatestOf_25 : decode cX7_greatestOf 25 = .ok (.iconst 1, 1) := by decide +kernel
theorem dX7_greatestOf_26 : decode cX7_greatestOf 26 = .ok (.isub, 1) := by decide +kernel
theorem dX7_greatestOf_27 : decode cX7_greatestOf 27 = .ok (.if_icmp .ge 30, 3) := by decide +kernel
theorem dX7_greatestOf_30 : decode cX7_greatestOf 30 = .ok (.aload_n 0, 1) := by decide +kernel
theorem dX7_greatestOf_31 : decode cX7_greatestOf 31 = .ok (.iload_n 1, 1) := by decide +kernel
theorem dX7_greatestOf_32 : decode cX7_greatestOf 32 = .ok (.iload 4, 2) := by decide +kernel
theorem dX7_greatestOf_34 : decode cX7_greatestOf 34 = .ok (.invokevirtual 76, 3) := by decide +kernel
theorem dX7_greatestOf_37 : decode cX7_greatestOf 37 = .ok (.istore 5, 2) := by decide +kernel
theorem dX7_greatestOf_39 : decode cX7_greatestOf 39 = .ok (.iload 5, 2) := by decide +kernel
theorem dX7_greatestOf_41 : decode cX7_greatestOf 41 = .ok (.iload_n 3, 1) := by decide +kernel
theorem dX7_greatestOf_42 : decode cX7_greatestOf 42 = .ok (.if_icmp .le 9, 3) := by decide +kernel
theorem dX7_greatestOf_45 : decode cX7_greatestOf 45 = .ok (.iload 5, 2) := by decide +kernel
theorem dX7_greatestOf_47 : decode cX7_greatestOf 47 = .ok (.istore_n 3, 1) := by decide +kernel
theorem dX7_greatestOf_48 : decode cX7_greatestOf 48 = .ok (.iload 4, 2) := by decide +kernel
theorem dX7_greatestOf_50 : decode cX7_greatestOf 50 = .ok (.istore_n 2, 1) := by decide +kernel
theorem dX7_greatestOf_51 : decode cX7_greatestOf 51 = .ok (.iinc 4 1, 3) := by decide +kernel
theorem dX7_greatestOf_54 : decode cX7_greatestOf 54 = .ok (.goto (-42), 3) := by decide +kernel
theorem dX7_greatestOf_57 : decode cX7_greatestOf 57 = .ok (.iload_n 2, 1) := by decide +kernel
theorem dX7_greatestOf_58 : decode cX7_greatestOf 58 = .ok (.ireturn, 1) := by decide +kernel
set_option maxRecDepth 20000 in
theorem ggX7_greatest_X7_isSign : GoodIn wsX7_greatest wsX7_isSign := goodIn_r _ [4, 5, 6, 3, 7] (by decide +kernel) (by decide +kernel)
set_option maxRecDepth 20000 in
theorem gX7_greatest_X7_isSign : GoodIn wsX7_greatest (va_wsS RX7 42 yX7_isSign wsX7_isSign) := goodIn_app (goodIn_of _ (by decide +kernel)) ggX7_greatest_X7_isSign
set_option maxRecDepth 20000 in
theorem ggX7_greatest_X7_greatestOf : GoodIn wsX7_greatest wsX7_greatestOf := goodIn_r _ [11, 12, 13, 14, 15, 16, 3, 17, 18, 19, 20, 21, 5, 6, 7, 22, 23, 24, 25, 26, 27, 28, 29, 30, 31, 32, 33, 34, 35, 36, 37, 38, 39, 40, 41] (by decide +kernel) (by decide +kernel)
set_option maxRecDepth 20000 in
theorem gX7_greatest_X7_greatestOf : GoodIn wsX7_greatest (wsV RX7 80 RX7 yX7_greatestOf wsX7_greatestOf) := goodIn_app (goodIn_of _ (by decide +kernel)) ggX7_greatest_X7_greatestOf
theorem dX7_greatest_0 : decode cX7_greatest 0 = .ok (.iload_n 1, 1) := by decide +kernel
theorem dX7_greatest_1 : decode cX7_greatest 1 = .ok (.invokestatic 42, 3) := by decide +kernel
theorem dX7_greatest_4 : decode cX7_greatest 4 = .ok (.ifCond .eq 11, 3) := by decide +kernel
theorem dX7_greatest_7 : decode cX7_greatest 7 = .ok (.aload_n 0, 1) := by decide +kernel
theorem dX7_greatest_8 : decode cX7_greatest 8 = .ok (.iload_n 1, 1) := by decide +kernel
theorem dX7_greatest_9 : decode cX7_greatest 9 = .ok (.invokevirtual 80, 3) := by decide +kernel
theorem dX7_greatest_12 : decode cX7_greatest 12 = .ok (.goto 5, 3) := by decide +kernel
theorem dX7_greatest_15 : decode cX7_greatest 15 = .ok (.bipush (-101), 2) := by decide +kernel
theorem dX7_greatest_17 : decode cX7_greatest 17 = .ok (.ireturn, 1) := by decide +kernel
set_option maxRecDepth 20000 in
theorem ggX7_clear_X7_isSign : GoodIn wsX7_clear wsX7_isSign := goodIn_r _ [7, 8, 9, 6, 10] (by decide +kernel) (by decide +kernel)
set_option maxRecDepth 20000 in
theorem gX7_clear_X7_isSign : GoodIn wsX7_clear (va_wsS RX7 42 yX7_isSign wsX7_isSign) := goodIn_app (goodIn_of _ (by decide +kernel)) ggX7_clear_X7_isSign
set_option maxRecDepth 20000 in
theorem ggX7_clear_X7_greatestOf : GoodIn wsX7_clear wsX7_greatestOf := goodIn_r _ [14, 1, 2, 15, 16, 17, 6, 18, 19, 20, 21, 22, 8, 9, 10, 23, 24, 25, 26, 27, 28, 29, 30, 31, 32, 33, 34, 35, 36, 37, 38, 39, 40, 41, 42] (by decide +kernel) (by decide +kernel)
set_option maxRecDepth 20000 in
theorem gX7_clear_X7_greatestOf : GoodIn wsX7_clear (wsV RX7 80 RX7 yX7_greatestOf wsX7_greatestOf) := goodIn_app (goodIn_of _ (by decide +kernel)) ggX7_clear_X7_greatestOf
set_option maxRecDepth 20000 in
theorem ggX7_clear_X7_answers : GoodIn wsX7_clear wsX7_answers := goodIn_r _ [18, 19, 20, 2, 1, 21, 22, 8, 9, 6, 10, 23, 24, 25, 26, 27, 28, 29, 30, 31, 32, 33, 34, 35, 36, 37, 38, 39, 40, 41, 42] (by decide +kernel) (by decide +kernel)
set_option maxRecDepth 20000 in
theorem gX7_clear_X7_answers : GoodIn wsX7_clear (wsV RX7 76 RX7 yX7_answers wsX7_answers) := goodIn_app (goodIn_of _ (by decide +kernel)) ggX7_clear_X7_answers
theorem dX7_clear_0 : decode cX7_clear 0 = .ok (.iload_n 1, 1) := by decide +kernel
theorem dX7_clear_1 : decode cX7_clear 1 = .ok (.invokestatic 42, 3) := by decide +kernel
theorem dX7_clear_4 : decode cX7_clear 4 = .ok (.ifCond .ne 6, 3) := by decide +kernel
end
section
theorem dX7_clear_7 : decode cX7_clear 7 = .ok (.bipush (-101), 2) := by decide +kernel
theorem dX7_clear_9 : decode cX7_clear 9 = .ok (.ireturn, 1) := by decide +kernel
theorem dX7_clear_10 : decode cX7_clear 10 = .ok (.aload_n 0, 1) := by decide +kernel
theorem dX7_clear_11 : decode cX7_clear 11 = .ok (.iload_n 1, 1) := by decide +kernel
theorem dX7_clear_12 : decode cX7_clear 12 = .ok (.invokevirtual 80, 3) := by decide +kernel
theorem dX7_clear_15 : decode cX7_clear 15 = .ok (.istore_n 2, 1) := by decide +kernel
theorem dX7_clear_16 : decode cX7_clear 16 = .ok (.aload_n 0, 1) := by decide +kernel
theorem dX7_clear_17 : decode cX7_clear 17 = .ok (.iload_n 1, 1) := by decide +kernel
theorem dX7_clear_18 : decode cX7_clear 18 = .ok (.iload_n 2, 1) := by decide +kernel
theorem dX7_clear_19 : decode cX7_clear 19 = .ok (.invokevirtual 76, 3) := by decide +kernel
theorem dX7_clear_22 : decode cX7_clear 22 = .ok (.istore_n 3, 1) := by decide +kernel
theorem dX7_clear_23 : decode cX7_clear 23 = .ok (.iconst 0, 1) := by decide +kernel
theorem dX7_clear_24 : decode cX7_clear 24 = .ok (.istore 4, 2) := by decide +kernel
theorem dX7_clear_26 : decode cX7_clear 26 = .ok (.iconst 0, 1) := by decide +kernel
theorem dX7_clear_27 : decode cX7_clear 27 = .ok (.istore 5, 2) := by decide +kernel
theorem dX7_clear_29 : decode cX7_clear 29 = .ok (.iload 5, 2) := by decide +kernel
theorem dX7_clear_31 : decode cX7_clear 31 = .ok (.aload_n 0, 1) := by decide +kernel
theorem dX7_clear_32 : decode cX7_clear 32 = .ok (.getfield 7, 3) := by decide +kernel
theorem dX7_clear_35 : decode cX7_clear 35 = .ok (.iload_n 1, 1) := by decide +kernel
theorem dX7_clear_36 : decode cX7_clear 36 = .ok (.iaload, 1) := by decide +kernel
theorem dX7_clear_37 : decode cX7_clear 37 = .ok (.aload_n 0, 1) := by decide +kernel
theorem dX7_clear_38 : decode cX7_clear 38 = .ok (.getfield 16, 3) := by decide +kernel
theorem dX7_clear_41 : decode cX7_clear 41 = .ok (.iadd, 1) := by decide +kernel
theorem dX7_clear_42 : decode cX7_clear 42 = .ok (.iconst 1, 1) := by decide +kernel
theorem dX7_clear_43 : decode cX7_clear 43 = .ok (.isub, 1) := by decide +kernel
theorem dX7_clear_44 : decode cX7_clear 44 = .ok (.if_icmp .ge 44, 3) := by decide +kernel
theorem dX7_clear_47 : decode cX7_clear 47 = .ok (.iload 5, 2) := by decide +kernel
theorem dX7_clear_49 : decode cX7_clear 49 = .ok (.iload_n 2, 1) := by decide +kernel
theorem dX7_clear_50 : decode cX7_clear 50 = .ok (.if_icmp .ne 7, 3) := by decide +kernel
theorem dX7_clear_53 : decode cX7_clear 53 = .ok (.iconst 0, 1) := by decide +kernel
theorem dX7_clear_54 : decode cX7_clear 54 = .ok (.goto 10, 3) := by decide +kernel
theorem dX7_clear_57 : decode cX7_clear 57 = .ok (.aload_n 0, 1) := by decide +kernel
theorem dX7_clear_58 : decode cX7_clear 58 = .ok (.iload_n 1, 1) := by decide +kernel
theorem dX7_clear_59 : decode cX7_clear 59 = .ok (.iload 5, 2) := by decide +kernel
theorem dX7_clear_61 : decode cX7_clear 61 = .ok (.invokevirtual 76, 3) := by decide +kernel
theorem dX7_clear_64 : decode cX7_clear 64 = .ok (.istore 6, 2) := by decide +kernel
theorem dX7_clear_66 : decode cX7_clear 66 = .ok (.iload 6, 2) := by decide +kernel
theorem dX7_clear_68 : decode cX7_clear 68 = .ok (.iload 4, 2) := by decide +kernel
theorem dX7_clear_70 : decode cX7_clear 70 = .ok (.if_icmp .le 8, 3) := by decide +kernel
theorem dX7_clear_73 : decode cX7_clear 73 = .ok (.iload 6, 2) := by decide +kernel
theorem dX7_clear_75 : decode cX7_clear 75 = .ok (.goto 5, 3) := by decide +kernel
theorem dX7_clear_78 : decode cX7_clear 78 = .ok (.iload 4, 2) := by decide +kernel
theorem dX7_clear_80 : decode cX7_clear 80 = .ok (.istore 4, 2) := by decide +kernel
theorem dX7_clear_82 : decode cX7_clear 82 = .ok (.iinc 5 1, 3) := by decide +kernel
theorem dX7_clear_85 : decode cX7_clear 85 = .ok (.goto (-56), 3) := by decide +kernel
theorem dX7_clear_88 : decode cX7_clear 88 = .ok (.iload_n 3, 1) := by decide +kernel
theorem dX7_clear_89 : decode cX7_clear 89 = .ok (.ifCond .ne 7, 3) := by decide +kernel
theorem dX7_clear_92 : decode cX7_clear 92 = .ok (.iconst 0, 1) := by decide +kernel
theorem dX7_clear_93 : decode cX7_clear 93 = .ok (.goto 20, 3) := by decide +kernel
theorem dX7_clear_96 : decode cX7_clear 96 = .ok (.iload 4, 2) := by decide +kernel
theorem dX7_clear_98 : decode cX7_clear 98 = .ok (.ifCond .ne 8, 3) := by decide +kernel
theorem dX7_clear_101 : decode cX7_clear 101 = .ok (.ldc 83, 2) := by decide +kernel
theorem dX7_clear_103 : decode cX7_clear 103 = .ok (.goto 10, 3) := by decide +kernel
theorem dX7_clear_106 : decode cX7_clear 106 = .ok (.bipush 10, 2) := by decide +kernel
theorem dX7_clear_108 : decode cX7_clear 108 = .ok (.iload_n 3, 1) := by decide +kernel
theorem dX7_clear_109 : decode cX7_clear 109 = .ok (.imul, 1) := by decide +kernel
theorem dX7_clear_110 : decode cX7_clear 110 = .ok (.iload 4, 2) := by decide +kernel
theorem dX7_clear_112 : decode cX7_clear 112 = .ok (.idiv, 1) := by decide +kernel
theorem dX7_clear_113 : decode cX7_clear 113 = .ok (.ireturn, 1) := by decide +kernel
set_option maxRecDepth 20000 in
theorem ggX7_rests_X7_in : GoodIn wsX7_rests wsX7_in := goodIn_r _ [7] (by decide +kernel) (by decide +kernel)
set_option maxRecDepth 20000 in
theorem gX7_rests_X7_in : GoodIn wsX7_rests (va_wsS RX7 38 yX7_in wsX7_in) := goodIn_app (goodIn_of _ (by decide +kernel)) ggX7_rests_X7_in
theorem dX7_rests_0 : decode cX7_rests 0 = .ok (.iload_n 1, 1) := by decide +kernel
theorem dX7_rests_1 : decode cX7_rests 1 = .ok (.iconst 1, 1) := by decide +kernel
theorem dX7_rests_2 : decode cX7_rests 2 = .ok (.iconst 4, 1) := by decide +kernel
theorem dX7_rests_3 : decode cX7_rests 3 = .ok (.invokestatic 38, 3) := by decide +kernel
theorem dX7_rests_6 : decode cX7_rests 6 = .ok (.ifCond .ne 6, 3) := by decide +kernel
theorem dX7_rests_9 : decode cX7_rests 9 = .ok (.bipush (-102), 2) := by decide +kernel
theorem dX7_rests_11 : decode cX7_rests 11 = .ok (.ireturn, 1) := by decide +kernel
theorem dX7_rests_12 : decode cX7_rests 12 = .ok (.aload_n 0, 1) := by decide +kernel
theorem dX7_rests_13 : decode cX7_rests 13 = .ok (.iload_n 1, 1) := by decide +kernel
theorem dX7_rests_14 : decode cX7_rests 14 = .ok (.putfield 23, 3) := by decide +kernel
theorem dX7_rests_17 : decode cX7_rests 17 = .ok (.iconst 0, 1) := by decide +kernel
theorem dX7_rests_18 : decode cX7_rests 18 = .ok (.istore_n 2, 1) := by decide +kernel
theorem dX7_rests_19 : decode cX7_rests 19 = .ok (.iload_n 2, 1) := by decide +kernel
theorem dX7_rests_20 : decode cX7_rests 20 = .ok (.iload_n 1, 1) := by decide +kernel
theorem dX7_rests_21 : decode cX7_rests 21 = .ok (.if_icmp .ge 23, 3) := by decide +kernel
theorem dX7_rests_24 : decode cX7_rests 24 = .ok (.aload_n 0, 1) := by decide +kernel
theorem dX7_rests_25 : decode cX7_rests 25 = .ok (.getfield 26, 3) := by decide +kernel
theorem dX7_rests_28 : decode cX7_rests 28 = .ok (.iload_n 2, 1) := by decide +kernel
theorem dX7_rests_29 : decode cX7_rests 29 = .ok (.iconst 2, 1) := by decide +kernel
theorem dX7_rests_30 : decode cX7_rests 30 = .ok (.iastore, 1) := by decide +kernel
theorem dX7_rests_31 : decode cX7_rests 31 = .ok (.aload_n 0, 1) := by decide +kernel
theorem dX7_rests_32 : decode cX7_rests 32 = .ok (.getfield 29, 3) := by decide +kernel
theorem dX7_rests_35 : decode cX7_rests 35 = .ok (.iload_n 2, 1) := by decide +kernel
theorem dX7_rests_36 : decode cX7_rests 36 = .ok (.iconst (-1), 1) := by decide +kernel
theorem dX7_rests_37 : decode cX7_rests 37 = .ok (.iastore, 1) := by decide +kernel
theorem dX7_rests_38 : decode cX7_rests 38 = .ok (.iinc 2 1, 3) := by decide +kernel
theorem dX7_rests_41 : decode cX7_rests 41 = .ok (.goto (-22), 3) := by decide +kernel
theorem dX7_rests_44 : decode cX7_rests 44 = .ok (.iload_n 1, 1) := by decide +kernel
theorem dX7_rests_45 : decode cX7_rests 45 = .ok (.ireturn, 1) := by decide +kernel
set_option maxRecDepth 20000 in
theorem ggX7_isRest_X7_in : GoodIn wsX7_isRest wsX7_in := goodIn_r _ [5] (by decide +kernel) (by decide +kernel)
set_option maxRecDepth 20000 in
theorem gX7_isRest_X7_in : GoodIn wsX7_isRest (va_wsS RX7 38 yX7_in wsX7_in) := goodIn_app (goodIn_of _ (by decide +kernel)) ggX7_isRest_X7_in
theorem dX7_isRest_0 : decode cX7_isRest 0 = .ok (.iload_n 1, 1) := by decide +kernel
theorem dX7_isRest_1 : decode cX7_isRest 1 = .ok (.iconst 0, 1) := by decide +kernel
theorem dX7_isRest_2 : decode cX7_isRest 2 = .ok (.aload_n 0, 1) := by decide +kernel
theorem dX7_isRest_3 : decode cX7_isRest 3 = .ok (.getfield 23, 3) := by decide +kernel
theorem dX7_isRest_6 : decode cX7_isRest 6 = .ok (.iconst 1, 1) := by decide +kernel
theorem dX7_isRest_7 : decode cX7_isRest 7 = .ok (.isub, 1) := by decide +kernel
theorem dX7_isRest_8 : decode cX7_isRest 8 = .ok (.invokestatic 38, 3) := by decide +kernel
theorem dX7_isRest_11 : decode cX7_isRest 11 = .ok (.ireturn, 1) := by decide +kernel
set_option maxRecDepth 20000 in
theorem ggX7_rest_X7_isRest : GoodIn wsX7_rest wsX7_isRest := goodIn_r _ [7, 8, 9, 10, 6, 11, 12, 13, 14, 15, 16, 17, 18, 19, 20, 21, 22, 23, 24, 25, 26, 27] (by decide +kernel) (by decide +kernel)
set_option maxRecDepth 20000 in
theorem gX7_rest_X7_isRest : GoodIn wsX7_rest (wsV RX7 84 RX7 yX7_isRest wsX7_isRest) := goodIn_app (goodIn_of _ (by decide +kernel)) ggX7_rest_X7_isRest
set_option maxRecDepth 20000 in
theorem ggX7_rest_X7_in : GoodIn wsX7_rest wsX7_in := goodIn_r _ [11] (by decide +kernel) (by decide +kernel)
set_option maxRecDepth 20000 in
theorem gX7_rest_X7_in : GoodIn wsX7_rest (va_wsS RX7 38 yX7_in wsX7_in) := goodIn_app (goodIn_of _ (by decide +kernel)) ggX7_rest_X7_in
theorem dX7_rest_0 : decode cX7_rest 0 = .ok (.aload_n 0, 1) := by decide +kernel
theorem dX7_rest_1 : decode cX7_rest 1 = .ok (.iload_n 1, 1) := by decide +kernel
theorem dX7_rest_2 : decode cX7_rest 2 = .ok (.invokevirtual 84, 3) := by decide +kernel
theorem dX7_rest_5 : decode cX7_rest 5 = .ok (.ifCond .ne 6, 3) := by decide +kernel
theorem dX7_rest_8 : decode cX7_rest 8 = .ok (.bipush (-101), 2) := by decide +kernel
theorem dX7_rest_10 : decode cX7_rest 10 = .ok (.ireturn, 1) := by decide +kernel
theorem dX7_rest_11 : decode cX7_rest 11 = .ok (.iload_n 2, 1) := by decide +kernel
theorem dX7_rest_12 : decode cX7_rest 12 = .ok (.iconst 2, 1) := by decide +kernel
theorem dX7_rest_13 : decode cX7_rest 13 = .ok (.bipush 60, 2) := by decide +kernel
theorem dX7_rest_15 : decode cX7_rest 15 = .ok (.invokestatic 38, 3) := by decide +kernel
theorem dX7_rest_18 : decode cX7_rest 18 = .ok (.ifCond .ne 6, 3) := by decide +kernel
theorem dX7_rest_21 : decode cX7_rest 21 = .ok (.bipush (-102), 2) := by decide +kernel
theorem dX7_rest_23 : decode cX7_rest 23 = .ok (.ireturn, 1) := by decide +kernel
theorem dX7_rest_24 : decode cX7_rest 24 = .ok (.aload_n 0, 1) := by decide +kernel
theorem dX7_rest_25 : decode cX7_rest 25 = .ok (.getfield 26, 3) := by decide +kernel
theorem dX7_rest_28 : decode cX7_rest 28 = .ok (.iload_n 1, 1) := by decide +kernel
theorem dX7_rest_29 : decode cX7_rest 29 = .ok (.iaload, 1) := by decide +kernel
theorem dX7_rest_30 : decode cX7_rest 30 = .ok (.istore_n 3, 1) := by decide +kernel
theorem dX7_rest_31 : decode cX7_rest 31 = .ok (.aload_n 0, 1) := by decide +kernel
theorem dX7_rest_32 : decode cX7_rest 32 = .ok (.getfield 26, 3) := by decide +kernel
theorem dX7_rest_35 : decode cX7_rest 35 = .ok (.iload_n 1, 1) := by decide +kernel
theorem dX7_rest_36 : decode cX7_rest 36 = .ok (.iload_n 2, 1) := by decide +kernel
theorem dX7_rest_37 : decode cX7_rest 37 = .ok (.iastore, 1) := by decide +kernel
theorem dX7_rest_38 : decode cX7_rest 38 = .ok (.aload_n 0, 1) := by decide +kernel
theorem dX7_rest_39 : decode cX7_rest 39 = .ok (.getfield 29, 3) := by decide +kernel
theorem dX7_rest_42 : decode cX7_rest 42 = .ok (.iload_n 1, 1) := by decide +kernel
theorem dX7_rest_43 : decode cX7_rest 43 = .ok (.iconst (-1), 1) := by decide +kernel
theorem dX7_rest_44 : decode cX7_rest 44 = .ok (.iastore, 1) := by decide +kernel
theorem dX7_rest_45 : decode cX7_rest 45 = .ok (.iload_n 3, 1) := by decide +kernel
theorem dX7_rest_46 : decode cX7_rest 46 = .ok (.ireturn, 1) := by decide +kernel
set_option maxRecDepth 20000 in
theorem ggX7_read_X7_isRest : GoodIn wsX7_read wsX7_isRest := goodIn_r _ [7, 8, 9, 10, 6, 11, 12, 13, 14, 15, 16, 17, 18, 19, 20, 21, 22, 23, 24, 25, 26, 27] (by decide +kernel) (by decide +kernel)
set_option maxRecDepth 20000 in
theorem gX7_read_X7_isRest : GoodIn wsX7_read (wsV RX7 84 RX7 yX7_isRest wsX7_isRest) := goodIn_app (goodIn_of _ (by decide +kernel)) ggX7_read_X7_isRest
set_option maxRecDepth 20000 in
theorem ggX7_read_X7_in : GoodIn wsX7_read wsX7_in := goodIn_r _ [11] (by decide +kernel) (by decide +kernel)
set_option maxRecDepth 20000 in
theorem gX7_read_X7_in : GoodIn wsX7_read (va_wsS RX7 38 yX7_in wsX7_in) := goodIn_app (goodIn_of _ (by decide +kernel)) ggX7_read_X7_in
theorem dX7_read_0 : decode cX7_read 0 = .ok (.aload_n 0, 1) := by decide +kernel
theorem dX7_read_1 : decode cX7_read 1 = .ok (.iload_n 1, 1) := by decide +kernel
theorem dX7_read_2 : decode cX7_read 2 = .ok (.invokevirtual 84, 3) := by decide +kernel
theorem dX7_read_5 : decode cX7_read 5 = .ok (.ifCond .ne 6, 3) := by decide +kernel
theorem dX7_read_8 : decode cX7_read 8 = .ok (.bipush (-101), 2) := by decide +kernel
theorem dX7_read_10 : decode cX7_read 10 = .ok (.ireturn, 1) := by decide +kernel
theorem dX7_read_11 : decode cX7_read 11 = .ok (.iload_n 2, 1) := by decide +kernel
theorem dX7_read_12 : decode cX7_read 12 = .ok (.iconst (-1), 1) := by decide +kernel
theorem dX7_read_13 : decode cX7_read 13 = .ok (.aload_n 0, 1) := by decide +kernel
theorem dX7_read_14 : decode cX7_read 14 = .ok (.getfield 26, 3) := by decide +kernel
theorem dX7_read_17 : decode cX7_read 17 = .ok (.iload_n 1, 1) := by decide +kernel
theorem dX7_read_18 : decode cX7_read 18 = .ok (.iaload, 1) := by decide +kernel
theorem dX7_read_19 : decode cX7_read 19 = .ok (.iconst 1, 1) := by decide +kernel
theorem dX7_read_20 : decode cX7_read 20 = .ok (.isub, 1) := by decide +kernel
theorem dX7_read_21 : decode cX7_read 21 = .ok (.invokestatic 38, 3) := by decide +kernel
theorem dX7_read_24 : decode cX7_read 24 = .ok (.ifCond .ne 6, 3) := by decide +kernel
theorem dX7_read_27 : decode cX7_read 27 = .ok (.bipush (-102), 2) := by decide +kernel
theorem dX7_read_29 : decode cX7_read 29 = .ok (.ireturn, 1) := by decide +kernel
theorem dX7_read_30 : decode cX7_read 30 = .ok (.aload_n 0, 1) := by decide +kernel
theorem dX7_read_31 : decode cX7_read 31 = .ok (.getfield 29, 3) := by decide +kernel
theorem dX7_read_34 : decode cX7_read 34 = .ok (.iload_n 1, 1) := by decide +kernel
theorem dX7_read_35 : decode cX7_read 35 = .ok (.iaload, 1) := by decide +kernel
theorem dX7_read_36 : decode cX7_read 36 = .ok (.istore_n 3, 1) := by decide +kernel
theorem dX7_read_37 : decode cX7_read 37 = .ok (.aload_n 0, 1) := by decide +kernel
theorem dX7_read_38 : decode cX7_read 38 = .ok (.getfield 29, 3) := by decide +kernel
theorem dX7_read_41 : decode cX7_read 41 = .ok (.iload_n 1, 1) := by decide +kernel
theorem dX7_read_42 : decode cX7_read 42 = .ok (.iload_n 2, 1) := by decide +kernel
theorem dX7_read_43 : decode cX7_read 43 = .ok (.iastore, 1) := by decide +kernel
theorem dX7_read_44 : decode cX7_read 44 = .ok (.iload_n 3, 1) := by decide +kernel
theorem dX7_read_45 : decode cX7_read 45 = .ok (.ireturn, 1) := by decide +kernel
set_option maxRecDepth 20000 in
theorem ggX7_fold_X7_in : GoodIn wsX7_fold wsX7_in := goodIn_r _ [8] (by decide +kernel) (by decide +kernel)
set_option maxRecDepth 20000 in
theorem gX7_fold_X7_in : GoodIn wsX7_fold (va_wsS RX7 38 yX7_in wsX7_in) := goodIn_app (goodIn_of _ (by decide +kernel)) ggX7_fold_X7_in
theorem dX7_fold_0 : decode cX7_fold 0 = .ok (.iload_n 1, 1) := by decide +kernel
theorem dX7_fold_1 : decode cX7_fold 1 = .ok (.iconst 0, 1) := by decide +kernel
theorem dX7_fold_2 : decode cX7_fold 2 = .ok (.ldc 83, 2) := by decide +kernel
theorem dX7_fold_4 : decode cX7_fold 4 = .ok (.invokestatic 38, 3) := by decide +kernel
theorem dX7_fold_7 : decode cX7_fold 7 = .ok (.ifCond .ne 6, 3) := by decide +kernel
theorem dX7_fold_10 : decode cX7_fold 10 = .ok (.bipush (-102), 2) := by decide +kernel
theorem dX7_fold_12 : decode cX7_fold 12 = .ok (.ireturn, 1) := by decide +kernel
theorem dX7_fold_13 : decode cX7_fold 13 = .ok (.iconst 0, 1) := by decide +kernel
theorem dX7_fold_14 : decode cX7_fold 14 = .ok (.istore_n 2, 1) := by decide +kernel
theorem dX7_fold_15 : decode cX7_fold 15 = .ok (.iload_n 2, 1) := by decide +kernel
theorem dX7_fold_16 : decode cX7_fold 16 = .ok (.aload_n 0, 1) := by decide +kernel
theorem dX7_fold_17 : decode cX7_fold 17 = .ok (.getfield 23, 3) := by decide +kernel
theorem dX7_fold_20 : decode cX7_fold 20 = .ok (.if_icmp .ge 23, 3) := by decide +kernel
theorem dX7_fold_23 : decode cX7_fold 23 = .ok (.aload_n 0, 1) := by decide +kernel
theorem dX7_fold_24 : decode cX7_fold 24 = .ok (.getfield 29, 3) := by decide +kernel
theorem dX7_fold_27 : decode cX7_fold 27 = .ok (.iload_n 2, 1) := by decide +kernel
theorem dX7_fold_28 : decode cX7_fold 28 = .ok (.iload_n 1, 1) := by decide +kernel
theorem dX7_fold_29 : decode cX7_fold 29 = .ok (.aload_n 0, 1) := by decide +kernel
theorem dX7_fold_30 : decode cX7_fold 30 = .ok (.getfield 26, 3) := by decide +kernel
theorem dX7_fold_33 : decode cX7_fold 33 = .ok (.iload_n 2, 1) := by decide +kernel
theorem dX7_fold_34 : decode cX7_fold 34 = .ok (.iaload, 1) := by decide +kernel
theorem dX7_fold_35 : decode cX7_fold 35 = .ok (.irem, 1) := by decide +kernel
theorem dX7_fold_36 : decode cX7_fold 36 = .ok (.iastore, 1) := by decide +kernel
theorem dX7_fold_37 : decode cX7_fold 37 = .ok (.iinc 2 1, 3) := by decide +kernel
theorem dX7_fold_40 : decode cX7_fold 40 = .ok (.goto (-25), 3) := by decide +kernel
theorem dX7_fold_43 : decode cX7_fold 43 = .ok (.aload_n 0, 1) := by decide +kernel
theorem dX7_fold_44 : decode cX7_fold 44 = .ok (.getfield 23, 3) := by decide +kernel
theorem dX7_fold_47 : decode cX7_fold 47 = .ok (.ireturn, 1) := by decide +kernel
theorem dX7_fits_0 : decode cX7_fits 0 = .ok (.iconst 0, 1) := by decide +kernel
theorem dX7_fits_1 : decode cX7_fits 1 = .ok (.istore 4, 2) := by decide +kernel
theorem dX7_fits_3 : decode cX7_fits 3 = .ok (.iconst 0, 1) := by decide +kernel
theorem dX7_fits_4 : decode cX7_fits 4 = .ok (.istore 5, 2) := by decide +kernel
theorem dX7_fits_6 : decode cX7_fits 6 = .ok (.iload 5, 2) := by decide +kernel
theorem dX7_fits_8 : decode cX7_fits 8 = .ok (.aload_n 0, 1) := by decide +kernel
theorem dX7_fits_9 : decode cX7_fits 9 = .ok (.getfield 23, 3) := by decide +kernel
theorem dX7_fits_12 : decode cX7_fits 12 = .ok (.if_icmp .ge 84, 3) := by decide +kernel
theorem dX7_fits_15 : decode cX7_fits 15 = .ok (.aload_n 0, 1) := by decide +kernel
theorem dX7_fits_16 : decode cX7_fits 16 = .ok (.getfield 29, 3) := by decide +kernel
theorem dX7_fits_19 : decode cX7_fits 19 = .ok (.iload 5, 2) := by decide +kernel
theorem dX7_fits_21 : decode cX7_fits 21 = .ok (.iaload, 1) := by decide +kernel
theorem dX7_fits_22 : decode cX7_fits 22 = .ok (.iconst (-1), 1) := by decide +kernel
theorem dX7_fits_23 : decode cX7_fits 23 = .ok (.if_icmp .eq 67, 3) := by decide +kernel
theorem dX7_fits_26 : decode cX7_fits 26 = .ok (.iload_n 1, 1) := by decide +kernel
theorem dX7_fits_27 : decode cX7_fits 27 = .ok (.aload_n 0, 1) := by decide +kernel
theorem dX7_fits_28 : decode cX7_fits 28 = .ok (.getfield 26, 3) := by decide +kernel
theorem dX7_fits_31 : decode cX7_fits 31 = .ok (.iload 5, 2) := by decide +kernel
theorem dX7_fits_33 : decode cX7_fits 33 = .ok (.iaload, 1) := by decide +kernel
theorem dX7_fits_34 : decode cX7_fits 34 = .ok (.irem, 1) := by decide +kernel
theorem dX7_fits_35 : decode cX7_fits 35 = .ok (.aload_n 0, 1) := by decide +kernel
theorem dX7_fits_36 : decode cX7_fits 36 = .ok (.getfield 29, 3) := by decide +kernel
theorem dX7_fits_39 : decode cX7_fits 39 = .ok (.iload 5, 2) := by decide +kernel
theorem dX7_fits_41 : decode cX7_fits 41 = .ok (.iaload, 1) := by decide +kernel
theorem dX7_fits_42 : decode cX7_fits 42 = .ok (.isub, 1) := by decide +kernel
theorem dX7_fits_43 : decode cX7_fits 43 = .ok (.istore 6, 2) := by decide +kernel
theorem dX7_fits_45 : decode cX7_fits 45 = .ok (.iload 6, 2) := by decide +kernel
theorem dX7_fits_47 : decode cX7_fits 47 = .ok (.ifCond .ge 9, 3) := by decide +kernel
theorem dX7_fits_50 : decode cX7_fits 50 = .ok (.iload 6, 2) := by decide +kernel
theorem dX7_fits_52 : decode cX7_fits 52 = .ok (.ineg, 1) := by decide +kernel
theorem dX7_fits_53 : decode cX7_fits 53 = .ok (.goto 5, 3) := by decide +kernel
theorem dX7_fits_56 : decode cX7_fits 56 = .ok (.iload 6, 2) := by decide +kernel
theorem dX7_fits_58 : decode cX7_fits 58 = .ok (.istore 6, 2) := by decide +kernel
theorem dX7_fits_60 : decode cX7_fits 60 = .ok (.iload 4, 2) := by decide +kernel
theorem dX7_fits_62 : decode cX7_fits 62 = .ok (.iload 6, 2) := by decide +kernel
theorem dX7_fits_64 : decode cX7_fits 64 = .ok (.iload_n 2, 1) := by decide +kernel
theorem dX7_fits_65 : decode cX7_fits 65 = .ok (.if_icmp .le 17, 3) := by decide +kernel
theorem dX7_fits_68 : decode cX7_fits 68 = .ok (.aload_n 0, 1) := by decide +kernel
theorem dX7_fits_69 : decode cX7_fits 69 = .ok (.getfield 26, 3) := by decide +kernel
theorem dX7_fits_72 : decode cX7_fits 72 = .ok (.iload 5, 2) := by decide +kernel
theorem dX7_fits_74 : decode cX7_fits 74 = .ok (.iaload, 1) := by decide +kernel
theorem dX7_fits_75 : decode cX7_fits 75 = .ok (.iload 6, 2) := by decide +kernel
theorem dX7_fits_77 : decode cX7_fits 77 = .ok (.isub, 1) := by decide +kernel
theorem dX7_fits_78 : decode cX7_fits 78 = .ok (.iload_n 2, 1) := by decide +kernel
theorem dX7_fits_79 : decode cX7_fits 79 = .ok (.if_icmp .gt 7, 3) := by decide +kernel
theorem dX7_fits_82 : decode cX7_fits 82 = .ok (.iconst 1, 1) := by decide +kernel
theorem dX7_fits_83 : decode cX7_fits 83 = .ok (.goto 4, 3) := by decide +kernel
theorem dX7_fits_86 : decode cX7_fits 86 = .ok (.iconst 0, 1) := by decide +kernel
theorem dX7_fits_87 : decode cX7_fits 87 = .ok (.iadd, 1) := by decide +kernel
theorem dX7_fits_88 : decode cX7_fits 88 = .ok (.istore 4, 2) := by decide +kernel
theorem dX7_fits_90 : decode cX7_fits 90 = .ok (.iinc 5 1, 3) := by decide +kernel
theorem dX7_fits_93 : decode cX7_fits 93 = .ok (.goto (-87), 3) := by decide +kernel
theorem dX7_fits_96 : decode cX7_fits 96 = .ok (.iload 4, 2) := by decide +kernel
theorem dX7_fits_98 : decode cX7_fits 98 = .ok (.iload_n 3, 1) := by decide +kernel
theorem dX7_fits_99 : decode cX7_fits 99 = .ok (.if_icmp .lt 7, 3) := by decide +kernel
theorem dX7_fits_102 : decode cX7_fits 102 = .ok (.iconst 1, 1) := by decide +kernel
theorem dX7_fits_103 : decode cX7_fits 103 = .ok (.goto 4, 3) := by decide +kernel
theorem dX7_fits_106 : decode cX7_fits 106 = .ok (.iconst 0, 1) := by decide +kernel
theorem dX7_fits_107 : decode cX7_fits 107 = .ok (.ireturn, 1) := by decide +kernel
set_option maxRecDepth 20000 in
theorem ggX7_isAsked_X7_in : GoodIn wsX7_isAsked wsX7_in := goodIn_r _ [4] (by decide +kernel) (by decide +kernel)
set_option maxRecDepth 20000 in
theorem gX7_isAsked_X7_in : GoodIn wsX7_isAsked (va_wsS RX7 38 yX7_in wsX7_in) := goodIn_app (goodIn_of _ (by decide +kernel)) ggX7_isAsked_X7_in
theorem dX7_isAsked_0 : decode cX7_isAsked 0 = .ok (.iload_n 0, 1) := by decide +kernel
theorem dX7_isAsked_1 : decode cX7_isAsked 1 = .ok (.iconst 0, 1) := by decide +kernel
theorem dX7_isAsked_2 : decode cX7_isAsked 2 = .ok (.iconst 5, 1) := by decide +kernel
theorem dX7_isAsked_3 : decode cX7_isAsked 3 = .ok (.invokestatic 38, 3) := by decide +kernel
theorem dX7_isAsked_6 : decode cX7_isAsked 6 = .ok (.ifCond .eq 27, 3) := by decide +kernel
theorem dX7_isAsked_9 : decode cX7_isAsked 9 = .ok (.iload_n 1, 1) := by decide +kernel
theorem dX7_isAsked_10 : decode cX7_isAsked 10 = .ok (.iconst 1, 1) := by decide +kernel
theorem dX7_isAsked_11 : decode cX7_isAsked 11 = .ok (.iconst 4, 1) := by decide +kernel
theorem dX7_isAsked_12 : decode cX7_isAsked 12 = .ok (.invokestatic 38, 3) := by decide +kernel
theorem dX7_isAsked_15 : decode cX7_isAsked 15 = .ok (.ifCond .eq 18, 3) := by decide +kernel
theorem dX7_isAsked_18 : decode cX7_isAsked 18 = .ok (.iload_n 2, 1) := by decide +kernel
theorem dX7_isAsked_19 : decode cX7_isAsked 19 = .ok (.iconst 1, 1) := by decide +kernel
theorem dX7_isAsked_20 : decode cX7_isAsked 20 = .ok (.sipush 5000, 3) := by decide +kernel
theorem dX7_isAsked_23 : decode cX7_isAsked 23 = .ok (.invokestatic 38, 3) := by decide +kernel
theorem dX7_isAsked_26 : decode cX7_isAsked 26 = .ok (.ifCond .eq 7, 3) := by decide +kernel
theorem dX7_isAsked_29 : decode cX7_isAsked 29 = .ok (.iconst 1, 1) := by decide +kernel
theorem dX7_isAsked_30 : decode cX7_isAsked 30 = .ok (.goto 4, 3) := by decide +kernel
theorem dX7_isAsked_33 : decode cX7_isAsked 33 = .ok (.iconst 0, 1) := by decide +kernel
theorem dX7_isAsked_34 : decode cX7_isAsked 34 = .ok (.ireturn, 1) := by decide +kernel
set_option maxRecDepth 20000 in
theorem ggX7_unfold_X7_isAsked : GoodIn wsX7_unfold wsX7_isAsked := goodIn_r _ [4, 5, 6, 3, 7] (by decide +kernel) (by decide +kernel)
set_option maxRecDepth 20000 in
theorem gX7_unfold_X7_isAsked : GoodIn wsX7_unfold (va_wsS RX7 87 yX7_isAsked wsX7_isAsked) := goodIn_app (goodIn_of _ (by decide +kernel)) ggX7_unfold_X7_isAsked
set_option maxRecDepth 20000 in
theorem ggX7_unfold_X7_fits : GoodIn wsX7_unfold wsX7_fits := goodIn_r _ [11, 12, 13, 14, 15, 16, 17, 18, 19, 20, 21, 22, 23, 24, 25, 26, 27, 28, 29, 30] (by decide +kernel) (by decide +kernel)
set_option maxRecDepth 20000 in
theorem gX7_unfold_X7_fits : GoodIn wsX7_unfold (wsV RX7 90 RX7 yX7_fits wsX7_fits) := goodIn_app (goodIn_of _ (by decide +kernel)) ggX7_unfold_X7_fits
theorem dX7_unfold_0 : decode cX7_unfold 0 = .ok (.iload_n 1, 1) := by decide +kernel
theorem dX7_unfold_1 : decode cX7_unfold 1 = .ok (.iload_n 2, 1) := by decide +kernel
theorem dX7_unfold_2 : decode cX7_unfold 2 = .ok (.iload_n 3, 1) := by decide +kernel
theorem dX7_unfold_3 : decode cX7_unfold 3 = .ok (.invokestatic 87, 3) := by decide +kernel
theorem dX7_unfold_6 : decode cX7_unfold 6 = .ok (.ifCond .ne 6, 3) := by decide +kernel
theorem dX7_unfold_9 : decode cX7_unfold 9 = .ok (.bipush (-102), 2) := by decide +kernel
theorem dX7_unfold_11 : decode cX7_unfold 11 = .ok (.ireturn, 1) := by decide +kernel
theorem dX7_unfold_12 : decode cX7_unfold 12 = .ok (.iconst 0, 1) := by decide +kernel
theorem dX7_unfold_13 : decode cX7_unfold 13 = .ok (.istore 4, 2) := by decide +kernel
theorem dX7_unfold_15 : decode cX7_unfold 15 = .ok (.iconst 0, 1) := by decide +kernel
theorem dX7_unfold_16 : decode cX7_unfold 16 = .ok (.istore 5, 2) := by decide +kernel
theorem dX7_unfold_18 : decode cX7_unfold 18 = .ok (.iload 5, 2) := by decide +kernel
theorem dX7_unfold_20 : decode cX7_unfold 20 = .ok (.iload_n 3, 1) := by decide +kernel
theorem dX7_unfold_21 : decode cX7_unfold 21 = .ok (.if_icmp .ge 30, 3) := by decide +kernel
theorem dX7_unfold_24 : decode cX7_unfold 24 = .ok (.iload 4, 2) := by decide +kernel
theorem dX7_unfold_26 : decode cX7_unfold 26 = .ok (.aload_n 0, 1) := by decide +kernel
theorem dX7_unfold_27 : decode cX7_unfold 27 = .ok (.iload 5, 2) := by decide +kernel
theorem dX7_unfold_29 : decode cX7_unfold 29 = .ok (.iload_n 1, 1) := by decide +kernel
theorem dX7_unfold_30 : decode cX7_unfold 30 = .ok (.iload_n 2, 1) := by decide +kernel
theorem dX7_unfold_31 : decode cX7_unfold 31 = .ok (.invokevirtual 90, 3) := by decide +kernel
theorem dX7_unfold_34 : decode cX7_unfold 34 = .ok (.ifCond .eq 7, 3) := by decide +kernel
theorem dX7_unfold_37 : decode cX7_unfold 37 = .ok (.iconst 1, 1) := by decide +kernel
theorem dX7_unfold_38 : decode cX7_unfold 38 = .ok (.goto 4, 3) := by decide +kernel
theorem dX7_unfold_41 : decode cX7_unfold 41 = .ok (.iconst 0, 1) := by decide +kernel
theorem dX7_unfold_42 : decode cX7_unfold 42 = .ok (.iadd, 1) := by decide +kernel
theorem dX7_unfold_43 : decode cX7_unfold 43 = .ok (.istore 4, 2) := by decide +kernel
theorem dX7_unfold_45 : decode cX7_unfold 45 = .ok (.iinc 5 1, 3) := by decide +kernel
theorem dX7_unfold_48 : decode cX7_unfold 48 = .ok (.goto (-30), 3) := by decide +kernel
theorem dX7_unfold_51 : decode cX7_unfold 51 = .ok (.iload 4, 2) := by decide +kernel
theorem dX7_unfold_53 : decode cX7_unfold 53 = .ok (.ireturn, 1) := by decide +kernel
set_option maxRecDepth 20000 in
theorem ggX7_unfolded_X7_isAsked : GoodIn wsX7_unfolded wsX7_isAsked := goodIn_r _ [4, 5, 6, 3, 7] (by decide +kernel) (by decide +kernel)
set_option maxRecDepth 20000 in
theorem gX7_unfolded_X7_isAsked : GoodIn wsX7_unfolded (va_wsS RX7 87 yX7_isAsked wsX7_isAsked) := goodIn_app (goodIn_of _ (by decide +kernel)) ggX7_unfolded_X7_isAsked
set_option maxRecDepth 20000 in
theorem ggX7_unfolded_X7_fits : GoodIn wsX7_unfolded wsX7_fits := goodIn_r _ [11, 12, 13, 14, 15, 16, 17, 18, 19, 20, 21, 22, 23, 24, 25, 26, 27, 28, 29, 30] (by decide +kernel) (by decide +kernel)
set_option maxRecDepth 20000 in
theorem gX7_unfolded_X7_fits : GoodIn wsX7_unfolded (wsV RX7 90 RX7 yX7_fits wsX7_fits) := goodIn_app (goodIn_of _ (by decide +kernel)) ggX7_unfolded_X7_fits
theorem dX7_unfolded_0 : decode cX7_unfolded 0 = .ok (.iload_n 1, 1) := by decide +kernel
theorem dX7_unfolded_1 : decode cX7_unfolded 1 = .ok (.iload_n 2, 1) := by decide +kernel
theorem dX7_unfolded_2 : decode cX7_unfolded 2 = .ok (.iload_n 3, 1) := by decide +kernel
theorem dX7_unfolded_3 : decode cX7_unfolded 3 = .ok (.invokestatic 87, 3) := by decide +kernel
theorem dX7_unfolded_6 : decode cX7_unfolded 6 = .ok (.ifCond .ne 6, 3) := by decide +kernel
theorem dX7_unfolded_9 : decode cX7_unfolded 9 = .ok (.bipush (-102), 2) := by decide +kernel
theorem dX7_unfolded_11 : decode cX7_unfolded 11 = .ok (.ireturn, 1) := by decide +kernel
theorem dX7_unfolded_12 : decode cX7_unfolded 12 = .ok (.iconst 0, 1) := by decide +kernel
theorem dX7_unfolded_13 : decode cX7_unfolded 13 = .ok (.istore 5, 2) := by decide +kernel
theorem dX7_unfolded_15 : decode cX7_unfolded 15 = .ok (.iconst 0, 1) := by decide +kernel
theorem dX7_unfolded_16 : decode cX7_unfolded 16 = .ok (.istore 6, 2) := by decide +kernel
theorem dX7_unfolded_18 : decode cX7_unfolded 18 = .ok (.iload 6, 2) := by decide +kernel
theorem dX7_unfolded_20 : decode cX7_unfolded 20 = .ok (.iload_n 3, 1) := by decide +kernel
theorem dX7_unfolded_21 : decode cX7_unfolded 21 = .ok (.if_icmp .ge 33, 3) := by decide +kernel
theorem dX7_unfolded_24 : decode cX7_unfolded 24 = .ok (.aload_n 0, 1) := by decide +kernel
theorem dX7_unfolded_25 : decode cX7_unfolded 25 = .ok (.iload 6, 2) := by decide +kernel
theorem dX7_unfolded_27 : decode cX7_unfolded 27 = .ok (.iload_n 1, 1) := by decide +kernel
theorem dX7_unfolded_28 : decode cX7_unfolded 28 = .ok (.iload_n 2, 1) := by decide +kernel
theorem dX7_unfolded_29 : decode cX7_unfolded 29 = .ok (.invokevirtual 90, 3) := by decide +kernel
theorem dX7_unfolded_32 : decode cX7_unfolded 32 = .ok (.ifCond .eq 16, 3) := by decide +kernel
theorem dX7_unfolded_35 : decode cX7_unfolded 35 = .ok (.iload 5, 2) := by decide +kernel
theorem dX7_unfolded_37 : decode cX7_unfolded 37 = .ok (.iload 4, 2) := by decide +kernel
theorem dX7_unfolded_39 : decode cX7_unfolded 39 = .ok (.if_icmp .ne 6, 3) := by decide +kernel
theorem dX7_unfolded_42 : decode cX7_unfolded 42 = .ok (.iload 6, 2) := by decide +kernel
theorem dX7_unfolded_44 : decode cX7_unfolded 44 = .ok (.ireturn, 1) := by decide +kernel
theorem dX7_unfolded_45 : decode cX7_unfolded 45 = .ok (.iinc 5 1, 3) := by decide +kernel
theorem dX7_unfolded_48 : decode cX7_unfolded 48 = .ok (.iinc 6 1, 3) := by decide +kernel
theorem dX7_unfolded_51 : decode cX7_unfolded 51 = .ok (.goto (-33), 3) := by decide +kernel
theorem dX7_unfolded_54 : decode cX7_unfolded 54 = .ok (.iconst (-1), 1) := by decide +kernel
theorem dX7_unfolded_55 : decode cX7_unfolded 55 = .ok (.ireturn, 1) := by decide +kernel
theorem dX7_shared_0 : decode cX7_shared 0 = .ok (.lload_n 0, 1) := by decide +kernel
theorem dX7_shared_1 : decode cX7_shared 1 = .ok (.lstore 4, 2) := by decide +kernel
theorem dX7_shared_3 : decode cX7_shared 3 = .ok (.lload_n 2, 1) := by decide +kernel
theorem dX7_shared_4 : decode cX7_shared 4 = .ok (.lstore 6, 2) := by decide +kernel
theorem dX7_shared_6 : decode cX7_shared 6 = .ok (.lload 6, 2) := by decide +kernel
theorem dX7_shared_8 : decode cX7_shared 8 = .ok (.lconst 0, 1) := by decide +kernel
theorem dX7_shared_9 : decode cX7_shared 9 = .ok (.lcmp, 1) := by decide +kernel
theorem dX7_shared_10 : decode cX7_shared 10 = .ok (.ifCond .eq 21, 3) := by decide +kernel
theorem dX7_shared_13 : decode cX7_shared 13 = .ok (.lload 4, 2) := by decide +kernel
theorem dX7_shared_15 : decode cX7_shared 15 = .ok (.lload 6, 2) := by decide +kernel
theorem dX7_shared_17 : decode cX7_shared 17 = .ok (.lrem, 1) := by decide +kernel
theorem dX7_shared_18 : decode cX7_shared 18 = .ok (.lstore 8, 2) := by decide +kernel
theorem dX7_shared_20 : decode cX7_shared 20 = .ok (.lload 6, 2) := by decide +kernel
theorem dX7_shared_22 : decode cX7_shared 22 = .ok (.lstore 4, 2) := by decide +kernel
theorem dX7_shared_24 : decode cX7_shared 24 = .ok (.lload 8, 2) := by decide +kernel
theorem dX7_shared_26 : decode cX7_shared 26 = .ok (.lstore 6, 2) := by decide +kernel
theorem dX7_shared_28 : decode cX7_shared 28 = .ok (.goto (-22), 3) := by decide +kernel
theorem dX7_shared_31 : decode cX7_shared 31 = .ok (.lload 4, 2) := by decide +kernel
theorem dX7_shared_33 : decode cX7_shared 33 = .ok (.lreturn, 1) := by decide +kernel
set_option maxRecDepth 20000 in
theorem ggX7_common_X7_shared : GoodIn wsX7_common wsX7_shared := goodIn_r _ [6] (by decide +kernel) (by decide +kernel)
set_option maxRecDepth 20000 in
theorem gX7_common_X7_shared : GoodIn wsX7_common (va_wsS RX7 93 yX7_shared wsX7_shared) := goodIn_app (goodIn_of _ (by decide +kernel)) ggX7_common_X7_shared
theorem dX7_common_0 : decode cX7_common 0 = .ok (.lconst 1, 1) := by decide +kernel
theorem dX7_common_1 : decode cX7_common 1 = .ok (.lstore_n 1, 1) := by decide +kernel
theorem dX7_common_2 : decode cX7_common 2 = .ok (.iconst 0, 1) := by decide +kernel
theorem dX7_common_3 : decode cX7_common 3 = .ok (.istore_n 3, 1) := by decide +kernel
theorem dX7_common_4 : decode cX7_common 4 = .ok (.iload_n 3, 1) := by decide +kernel
theorem dX7_common_5 : decode cX7_common 5 = .ok (.aload_n 0, 1) := by decide +kernel
theorem dX7_common_6 : decode cX7_common 6 = .ok (.getfield 23, 3) := by decide +kernel
theorem dX7_common_9 : decode cX7_common 9 = .ok (.if_icmp .ge 31, 3) := by decide +kernel
theorem dX7_common_12 : decode cX7_common 12 = .ok (.lload_n 1, 1) := by decide +kernel
theorem dX7_common_13 : decode cX7_common 13 = .ok (.lload_n 1, 1) := by decide +kernel
theorem dX7_common_14 : decode cX7_common 14 = .ok (.aload_n 0, 1) := by decide +kernel
theorem dX7_common_15 : decode cX7_common 15 = .ok (.getfield 26, 3) := by decide +kernel
theorem dX7_common_18 : decode cX7_common 18 = .ok (.iload_n 3, 1) := by decide +kernel
theorem dX7_common_19 : decode cX7_common 19 = .ok (.iaload, 1) := by decide +kernel
theorem dX7_common_20 : decode cX7_common 20 = .ok (.i2l, 1) := by decide +kernel
theorem dX7_common_21 : decode cX7_common 21 = .ok (.invokestatic 93, 3) := by decide +kernel
theorem dX7_common_24 : decode cX7_common 24 = .ok (.ldiv, 1) := by decide +kernel
theorem dX7_common_25 : decode cX7_common 25 = .ok (.aload_n 0, 1) := by decide +kernel
theorem dX7_common_26 : decode cX7_common 26 = .ok (.getfield 26, 3) := by decide +kernel
theorem dX7_common_29 : decode cX7_common 29 = .ok (.iload_n 3, 1) := by decide +kernel
theorem dX7_common_30 : decode cX7_common 30 = .ok (.iaload, 1) := by decide +kernel
theorem dX7_common_31 : decode cX7_common 31 = .ok (.i2l, 1) := by decide +kernel
theorem dX7_common_32 : decode cX7_common 32 = .ok (.lmul, 1) := by decide +kernel
theorem dX7_common_33 : decode cX7_common 33 = .ok (.lstore_n 1, 1) := by decide +kernel
theorem dX7_common_34 : decode cX7_common 34 = .ok (.iinc 3 1, 3) := by decide +kernel
theorem dX7_common_37 : decode cX7_common 37 = .ok (.goto (-33), 3) := by decide +kernel
theorem dX7_common_40 : decode cX7_common 40 = .ok (.lload_n 1, 1) := by decide +kernel
theorem dX7_common_41 : decode cX7_common 41 = .ok (.l2i, 1) := by decide +kernel
theorem dX7_common_42 : decode cX7_common 42 = .ok (.ireturn, 1) := by decide +kernel
set_option maxRecDepth 20000 in
theorem ggX7_blind_X7_isRest : GoodIn wsX7_blind wsX7_isRest := goodIn_r _ [7, 1, 8, 9, 6, 10, 11, 12, 13, 14, 15, 16, 17, 18, 19, 20, 21, 22, 23, 24, 25, 26] (by decide +kernel) (by decide +kernel)
set_option maxRecDepth 20000 in
theorem gX7_blind_X7_isRest : GoodIn wsX7_blind (wsV RX7 84 RX7 yX7_isRest wsX7_isRest) := goodIn_app (goodIn_of _ (by decide +kernel)) ggX7_blind_X7_isRest
set_option maxRecDepth 20000 in
theorem ggX7_blind_X7_in : GoodIn wsX7_blind wsX7_in := goodIn_r _ [10] (by decide +kernel) (by decide +kernel)
set_option maxRecDepth 20000 in
theorem gX7_blind_X7_in : GoodIn wsX7_blind (va_wsS RX7 38 yX7_in wsX7_in) := goodIn_app (goodIn_of _ (by decide +kernel)) ggX7_blind_X7_in
theorem dX7_blind_0 : decode cX7_blind 0 = .ok (.iload_n 1, 1) := by decide +kernel
theorem dX7_blind_1 : decode cX7_blind 1 = .ok (.iconst (-1), 1) := by decide +kernel
theorem dX7_blind_2 : decode cX7_blind 2 = .ok (.if_icmp .eq 14, 3) := by decide +kernel
theorem dX7_blind_5 : decode cX7_blind 5 = .ok (.aload_n 0, 1) := by decide +kernel
theorem dX7_blind_6 : decode cX7_blind 6 = .ok (.iload_n 1, 1) := by decide +kernel
theorem dX7_blind_7 : decode cX7_blind 7 = .ok (.invokevirtual 84, 3) := by decide +kernel
theorem dX7_blind_10 : decode cX7_blind 10 = .ok (.ifCond .ne 6, 3) := by decide +kernel
theorem dX7_blind_13 : decode cX7_blind 13 = .ok (.bipush (-101), 2) := by decide +kernel
theorem dX7_blind_15 : decode cX7_blind 15 = .ok (.ireturn, 1) := by decide +kernel
theorem dX7_blind_16 : decode cX7_blind 16 = .ok (.iload_n 2, 1) := by decide +kernel
theorem dX7_blind_17 : decode cX7_blind 17 = .ok (.iconst 1, 1) := by decide +kernel
theorem dX7_blind_18 : decode cX7_blind 18 = .ok (.sipush 3600, 3) := by decide +kernel
theorem dX7_blind_21 : decode cX7_blind 21 = .ok (.invokestatic 38, 3) := by decide +kernel
theorem dX7_blind_24 : decode cX7_blind 24 = .ok (.ifCond .ne 6, 3) := by decide +kernel
theorem dX7_blind_27 : decode cX7_blind 27 = .ok (.bipush (-102), 2) := by decide +kernel
theorem dX7_blind_29 : decode cX7_blind 29 = .ok (.ireturn, 1) := by decide +kernel
theorem dX7_blind_30 : decode cX7_blind 30 = .ok (.iconst 0, 1) := by decide +kernel
theorem dX7_blind_31 : decode cX7_blind 31 = .ok (.istore_n 3, 1) := by decide +kernel
theorem dX7_blind_32 : decode cX7_blind 32 = .ok (.iconst 0, 1) := by decide +kernel
theorem dX7_blind_33 : decode cX7_blind 33 = .ok (.istore 4, 2) := by decide +kernel
theorem dX7_blind_35 : decode cX7_blind 35 = .ok (.iload 4, 2) := by decide +kernel
theorem dX7_blind_37 : decode cX7_blind 37 = .ok (.iload_n 2, 1) := by decide +kernel
theorem dX7_blind_38 : decode cX7_blind 38 = .ok (.if_icmp .ge 81, 3) := by decide +kernel
theorem dX7_blind_41 : decode cX7_blind 41 = .ok (.iconst 1, 1) := by decide +kernel
theorem dX7_blind_42 : decode cX7_blind 42 = .ok (.istore 5, 2) := by decide +kernel
theorem dX7_blind_44 : decode cX7_blind 44 = .ok (.iconst 0, 1) := by decide +kernel
theorem dX7_blind_45 : decode cX7_blind 45 = .ok (.istore 6, 2) := by decide +kernel
theorem dX7_blind_47 : decode cX7_blind 47 = .ok (.iload 6, 2) := by decide +kernel
theorem dX7_blind_49 : decode cX7_blind 49 = .ok (.aload_n 0, 1) := by decide +kernel
theorem dX7_blind_50 : decode cX7_blind 50 = .ok (.getfield 23, 3) := by decide +kernel
theorem dX7_blind_53 : decode cX7_blind 53 = .ok (.if_icmp .ge 47, 3) := by decide +kernel
theorem dX7_blind_56 : decode cX7_blind 56 = .ok (.iload 5, 2) := by decide +kernel
theorem dX7_blind_58 : decode cX7_blind 58 = .ok (.ifCond .eq 33, 3) := by decide +kernel
theorem dX7_blind_61 : decode cX7_blind 61 = .ok (.iload_n 1, 1) := by decide +kernel
theorem dX7_blind_62 : decode cX7_blind 62 = .ok (.iconst (-1), 1) := by decide +kernel
theorem dX7_blind_63 : decode cX7_blind 63 = .ok (.if_icmp .eq 9, 3) := by decide +kernel
theorem dX7_blind_66 : decode cX7_blind 66 = .ok (.iload 6, 2) := by decide +kernel
theorem dX7_blind_68 : decode cX7_blind 68 = .ok (.iload_n 1, 1) := by decide +kernel
theorem dX7_blind_69 : decode cX7_blind 69 = .ok (.if_icmp .ne 18, 3) := by decide +kernel
theorem dX7_blind_72 : decode cX7_blind 72 = .ok (.iload 4, 2) := by decide +kernel
theorem dX7_blind_74 : decode cX7_blind 74 = .ok (.aload_n 0, 1) := by decide +kernel
theorem dX7_blind_75 : decode cX7_blind 75 = .ok (.getfield 26, 3) := by decide +kernel
theorem dX7_blind_78 : decode cX7_blind 78 = .ok (.iload 6, 2) := by decide +kernel
theorem dX7_blind_80 : decode cX7_blind 80 = .ok (.iaload, 1) := by decide +kernel
theorem dX7_blind_81 : decode cX7_blind 81 = .ok (.imul, 1) := by decide +kernel
theorem dX7_blind_82 : decode cX7_blind 82 = .ok (.iload_n 2, 1) := by decide +kernel
theorem dX7_blind_83 : decode cX7_blind 83 = .ok (.irem, 1) := by decide +kernel
theorem dX7_blind_84 : decode cX7_blind 84 = .ok (.ifCond .ne 7, 3) := by decide +kernel
theorem dX7_blind_87 : decode cX7_blind 87 = .ok (.iconst 1, 1) := by decide +kernel
theorem dX7_blind_88 : decode cX7_blind 88 = .ok (.goto 4, 3) := by decide +kernel
theorem dX7_blind_91 : decode cX7_blind 91 = .ok (.iconst 0, 1) := by decide +kernel
theorem dX7_blind_92 : decode cX7_blind 92 = .ok (.istore 5, 2) := by decide +kernel
theorem dX7_blind_94 : decode cX7_blind 94 = .ok (.iinc 6 1, 3) := by decide +kernel
theorem dX7_blind_97 : decode cX7_blind 97 = .ok (.goto (-50), 3) := by decide +kernel
theorem dX7_blind_100 : decode cX7_blind 100 = .ok (.iload_n 3, 1) := by decide +kernel
theorem dX7_blind_101 : decode cX7_blind 101 = .ok (.iload 5, 2) := by decide +kernel
theorem dX7_blind_103 : decode cX7_blind 103 = .ok (.ifCond .eq 7, 3) := by decide +kernel
theorem dX7_blind_106 : decode cX7_blind 106 = .ok (.iconst 1, 1) := by decide +kernel
theorem dX7_blind_107 : decode cX7_blind 107 = .ok (.goto 4, 3) := by decide +kernel
theorem dX7_blind_110 : decode cX7_blind 110 = .ok (.iconst 0, 1) := by decide +kernel
theorem dX7_blind_111 : decode cX7_blind 111 = .ok (.iadd, 1) := by decide +kernel
theorem dX7_blind_112 : decode cX7_blind 112 = .ok (.istore_n 3, 1) := by decide +kernel
theorem dX7_blind_113 : decode cX7_blind 113 = .ok (.iinc 4 1, 3) := by decide +kernel
theorem dX7_blind_116 : decode cX7_blind 116 = .ok (.goto (-81), 3) := by decide +kernel
theorem dX7_blind_119 : decode cX7_blind 119 = .ok (.iload_n 3, 1) := by decide +kernel
theorem dX7_blind_120 : decode cX7_blind 120 = .ok (.ireturn, 1) := by decide +kernel
set_option maxRecDepth 20000 in
theorem ggX7_put_X7_in : GoodIn wsX7_put wsX7_in := goodIn_r _ [6] (by decide +kernel) (by decide +kernel)
set_option maxRecDepth 20000 in
theorem gX7_put_X7_in : GoodIn wsX7_put (va_wsS RX7 38 yX7_in wsX7_in) := goodIn_app (goodIn_of _ (by decide +kernel)) ggX7_put_X7_in
theorem dX7_put_0 : decode cX7_put 0 = .ok (.iload_n 1, 1) := by decide +kernel
theorem dX7_put_1 : decode cX7_put 1 = .ok (.iconst 0, 1) := by decide +kernel
theorem dX7_put_2 : decode cX7_put 2 = .ok (.sipush 10000, 3) := by decide +kernel
theorem dX7_put_5 : decode cX7_put 5 = .ok (.invokestatic 38, 3) := by decide +kernel
theorem dX7_put_8 : decode cX7_put 8 = .ok (.ifCond .ne 6, 3) := by decide +kernel
theorem dX7_put_11 : decode cX7_put 11 = .ok (.bipush (-102), 2) := by decide +kernel
theorem dX7_put_13 : decode cX7_put 13 = .ok (.ireturn, 1) := by decide +kernel
theorem dX7_put_14 : decode cX7_put 14 = .ok (.aload_n 0, 1) := by decide +kernel
theorem dX7_put_15 : decode cX7_put 15 = .ok (.getfield 97, 3) := by decide +kernel
theorem dX7_put_18 : decode cX7_put 18 = .ok (.bipush 64, 2) := by decide +kernel
theorem dX7_put_20 : decode cX7_put 20 = .ok (.if_icmp .ne 6, 3) := by decide +kernel
theorem dX7_put_23 : decode cX7_put 23 = .ok (.bipush (-104), 2) := by decide +kernel
theorem dX7_put_25 : decode cX7_put 25 = .ok (.ireturn, 1) := by decide +kernel
theorem dX7_put_26 : decode cX7_put 26 = .ok (.aload_n 0, 1) := by decide +kernel
theorem dX7_put_27 : decode cX7_put 27 = .ok (.getfield 32, 3) := by decide +kernel
theorem dX7_put_30 : decode cX7_put 30 = .ok (.aload_n 0, 1) := by decide +kernel
theorem dX7_put_31 : decode cX7_put 31 = .ok (.getfield 97, 3) := by decide +kernel
theorem dX7_put_34 : decode cX7_put 34 = .ok (.iload_n 1, 1) := by decide +kernel
theorem dX7_put_35 : decode cX7_put 35 = .ok (.iastore, 1) := by decide +kernel
theorem dX7_put_36 : decode cX7_put 36 = .ok (.aload_n 0, 1) := by decide +kernel
theorem dX7_put_37 : decode cX7_put 37 = .ok (.dup, 1) := by decide +kernel
theorem dX7_put_38 : decode cX7_put 38 = .ok (.getfield 97, 3) := by decide +kernel
theorem dX7_put_41 : decode cX7_put 41 = .ok (.iconst 1, 1) := by decide +kernel
theorem dX7_put_42 : decode cX7_put 42 = .ok (.iadd, 1) := by decide +kernel
theorem dX7_put_43 : decode cX7_put 43 = .ok (.putfield 97, 3) := by decide +kernel
theorem dX7_put_46 : decode cX7_put 46 = .ok (.aload_n 0, 1) := by decide +kernel
theorem dX7_put_47 : decode cX7_put 47 = .ok (.getfield 97, 3) := by decide +kernel
theorem dX7_put_50 : decode cX7_put 50 = .ok (.ireturn, 1) := by decide +kernel
theorem dX7_empty_0 : decode cX7_empty 0 = .ok (.aload_n 0, 1) := by decide +kernel
theorem dX7_empty_1 : decode cX7_empty 1 = .ok (.getfield 97, 3) := by decide +kernel
theorem dX7_empty_4 : decode cX7_empty 4 = .ok (.istore_n 1, 1) := by decide +kernel
theorem dX7_empty_5 : decode cX7_empty 5 = .ok (.aload_n 0, 1) := by decide +kernel
theorem dX7_empty_6 : decode cX7_empty 6 = .ok (.iconst 0, 1) := by decide +kernel
theorem dX7_empty_7 : decode cX7_empty 7 = .ok (.putfield 97, 3) := by decide +kernel
theorem dX7_empty_10 : decode cX7_empty 10 = .ok (.iload_n 1, 1) := by decide +kernel
theorem dX7_empty_11 : decode cX7_empty 11 = .ok (.ireturn, 1) := by decide +kernel
set_option maxRecDepth 20000 in
theorem ggX7_isNear_X7_in : GoodIn wsX7_isNear wsX7_in := goodIn_r _ [4] (by decide +kernel) (by decide +kernel)
set_option maxRecDepth 20000 in
theorem gX7_isNear_X7_in : GoodIn wsX7_isNear (va_wsS RX7 38 yX7_in wsX7_in) := goodIn_app (goodIn_of _ (by decide +kernel)) ggX7_isNear_X7_in
theorem dX7_isNear_0 : decode cX7_isNear 0 = .ok (.iload_n 1, 1) := by decide +kernel
theorem dX7_isNear_1 : decode cX7_isNear 1 = .ok (.iload_n 2, 1) := by decide +kernel
theorem dX7_isNear_2 : decode cX7_isNear 2 = .ok (.if_icmp .ge 9, 3) := by decide +kernel
theorem dX7_isNear_5 : decode cX7_isNear 5 = .ok (.iload_n 2, 1) := by decide +kernel
theorem dX7_isNear_6 : decode cX7_isNear 6 = .ok (.iload_n 1, 1) := by decide +kernel
theorem dX7_isNear_7 : decode cX7_isNear 7 = .ok (.isub, 1) := by decide +kernel
theorem dX7_isNear_8 : decode cX7_isNear 8 = .ok (.goto 6, 3) := by decide +kernel
theorem dX7_isNear_11 : decode cX7_isNear 11 = .ok (.iload_n 1, 1) := by decide +kernel
theorem dX7_isNear_12 : decode cX7_isNear 12 = .ok (.iload_n 2, 1) := by decide +kernel
theorem dX7_isNear_13 : decode cX7_isNear 13 = .ok (.isub, 1) := by decide +kernel
theorem dX7_isNear_14 : decode cX7_isNear 14 = .ok (.istore 5, 2) := by decide +kernel
theorem dX7_isNear_16 : decode cX7_isNear 16 = .ok (.iload 5, 2) := by decide +kernel
theorem dX7_isNear_18 : decode cX7_isNear 18 = .ok (.iload 4, 2) := by decide +kernel
theorem dX7_isNear_20 : decode cX7_isNear 20 = .ok (.iconst 1, 1) := by decide +kernel
theorem dX7_isNear_21 : decode cX7_isNear 21 = .ok (.iadd, 1) := by decide +kernel
theorem dX7_isNear_22 : decode cX7_isNear 22 = .ok (.iload 4, 2) := by decide +kernel
theorem dX7_isNear_24 : decode cX7_isNear 24 = .ok (.iload_n 3, 1) := by decide +kernel
theorem dX7_isNear_25 : decode cX7_isNear 25 = .ok (.iadd, 1) := by decide +kernel
theorem dX7_isNear_26 : decode cX7_isNear 26 = .ok (.invokestatic 38, 3) := by decide +kernel
theorem dX7_isNear_29 : decode cX7_isNear 29 = .ok (.ireturn, 1) := by decide +kernel
set_option maxRecDepth 20000 in
theorem ggX7_least_X7_isNear : GoodIn wsX7_least wsX7_isNear := goodIn_r _ [7, 8, 9, 6, 10] (by decide +kernel) (by decide +kernel)
set_option maxRecDepth 20000 in
theorem gX7_least_X7_isNear : GoodIn wsX7_least (wsV RX7 100 RX7 yX7_isNear wsX7_isNear) := goodIn_app (goodIn_of _ (by decide +kernel)) ggX7_least_X7_isNear
theorem dX7_least_0 : decode cX7_least 0 = .ok (.iconst 0, 1) := by decide +kernel
theorem dX7_least_1 : decode cX7_least 1 = .ok (.istore 5, 2) := by decide +kernel
theorem dX7_least_3 : decode cX7_least 3 = .ok (.iload 5, 2) := by decide +kernel
theorem dX7_least_5 : decode cX7_least 5 = .ok (.aload_n 0, 1) := by decide +kernel
theorem dX7_least_6 : decode cX7_least 6 = .ok (.getfield 97, 3) := by decide +kernel
theorem dX7_least_9 : decode cX7_least 9 = .ok (.if_icmp .ge 122, 3) := by decide +kernel
theorem dX7_least_12 : decode cX7_least 12 = .ok (.aload_n 0, 1) := by decide +kernel
theorem dX7_least_13 : decode cX7_least 13 = .ok (.iload_n 1, 1) := by decide +kernel
theorem dX7_least_14 : decode cX7_least 14 = .ok (.iload 5, 2) := by decide +kernel
theorem dX7_least_16 : decode cX7_least 16 = .ok (.iload_n 2, 1) := by decide +kernel
theorem dX7_least_17 : decode cX7_least 17 = .ok (.iload_n 3, 1) := by decide +kernel
theorem dX7_least_18 : decode cX7_least 18 = .ok (.invokevirtual 100, 3) := by decide +kernel
theorem dX7_least_21 : decode cX7_least 21 = .ok (.ifCond .eq 104, 3) := by decide +kernel
theorem dX7_least_24 : decode cX7_least 24 = .ok (.iconst 0, 1) := by decide +kernel
theorem dX7_least_25 : decode cX7_least 25 = .ok (.istore 6, 2) := by decide +kernel
theorem dX7_least_27 : decode cX7_least 27 = .ok (.iconst 0, 1) := by decide +kernel
theorem dX7_least_28 : decode cX7_least 28 = .ok (.istore 7, 2) := by decide +kernel
theorem dX7_least_30 : decode cX7_least 30 = .ok (.iload 7, 2) := by decide +kernel
theorem dX7_least_32 : decode cX7_least 32 = .ok (.aload_n 0, 1) := by decide +kernel
theorem dX7_least_33 : decode cX7_least 33 = .ok (.getfield 97, 3) := by decide +kernel
theorem dX7_least_36 : decode cX7_least 36 = .ok (.if_icmp .ge 72, 3) := by decide +kernel
theorem dX7_least_39 : decode cX7_least 39 = .ok (.iload 6, 2) := by decide +kernel
theorem dX7_least_41 : decode cX7_least 41 = .ok (.aload_n 0, 1) := by decide +kernel
theorem dX7_least_42 : decode cX7_least 42 = .ok (.iload_n 1, 1) := by decide +kernel
theorem dX7_least_43 : decode cX7_least 43 = .ok (.iload 7, 2) := by decide +kernel
theorem dX7_least_45 : decode cX7_least 45 = .ok (.iload_n 2, 1) := by decide +kernel
theorem dX7_least_46 : decode cX7_least 46 = .ok (.iload_n 3, 1) := by decide +kernel
theorem dX7_least_47 : decode cX7_least 47 = .ok (.invokevirtual 100, 3) := by decide +kernel
theorem dX7_least_50 : decode cX7_least 50 = .ok (.ifCond .eq 48, 3) := by decide +kernel
theorem dX7_least_53 : decode cX7_least 53 = .ok (.aload_n 0, 1) := by decide +kernel
theorem dX7_least_54 : decode cX7_least 54 = .ok (.getfield 32, 3) := by decide +kernel
theorem dX7_least_57 : decode cX7_least 57 = .ok (.iload 7, 2) := by decide +kernel
theorem dX7_least_59 : decode cX7_least 59 = .ok (.iaload, 1) := by decide +kernel
theorem dX7_least_60 : decode cX7_least 60 = .ok (.aload_n 0, 1) := by decide +kernel
theorem dX7_least_61 : decode cX7_least 61 = .ok (.getfield 32, 3) := by decide +kernel
theorem dX7_least_64 : decode cX7_least 64 = .ok (.iload 5, 2) := by decide +kernel
theorem dX7_least_66 : decode cX7_least 66 = .ok (.iaload, 1) := by decide +kernel
theorem dX7_least_67 : decode cX7_least 67 = .ok (.if_icmp .lt 27, 3) := by decide +kernel
theorem dX7_least_70 : decode cX7_least 70 = .ok (.aload_n 0, 1) := by decide +kernel
theorem dX7_least_71 : decode cX7_least 71 = .ok (.getfield 32, 3) := by decide +kernel
theorem dX7_least_74 : decode cX7_least 74 = .ok (.iload 7, 2) := by decide +kernel
theorem dX7_least_76 : decode cX7_least 76 = .ok (.iaload, 1) := by decide +kernel
theorem dX7_least_77 : decode cX7_least 77 = .ok (.aload_n 0, 1) := by decide +kernel
theorem dX7_least_78 : decode cX7_least 78 = .ok (.getfield 32, 3) := by decide +kernel
theorem dX7_least_81 : decode cX7_least 81 = .ok (.iload 5, 2) := by decide +kernel
theorem dX7_least_83 : decode cX7_least 83 = .ok (.iaload, 1) := by decide +kernel
theorem dX7_least_84 : decode cX7_least 84 = .ok (.if_icmp .ne 14, 3) := by decide +kernel
theorem dX7_least_87 : decode cX7_least 87 = .ok (.iload 7, 2) := by decide +kernel
theorem dX7_least_89 : decode cX7_least 89 = .ok (.iload 5, 2) := by decide +kernel
theorem dX7_least_91 : decode cX7_least 91 = .ok (.if_icmp .ge 7, 3) := by decide +kernel
theorem dX7_least_94 : decode cX7_least 94 = .ok (.iconst 1, 1) := by decide +kernel
theorem dX7_least_95 : decode cX7_least 95 = .ok (.goto 4, 3) := by decide +kernel
theorem dX7_least_98 : decode cX7_least 98 = .ok (.iconst 0, 1) := by decide +kernel
theorem dX7_least_99 : decode cX7_least 99 = .ok (.iadd, 1) := by decide +kernel
theorem dX7_least_100 : decode cX7_least 100 = .ok (.istore 6, 2) := by decide +kernel
theorem dX7_least_102 : decode cX7_least 102 = .ok (.iinc 7 1, 3) := by decide +kernel
theorem dX7_least_105 : decode cX7_least 105 = .ok (.goto (-75), 3) := by decide +kernel
theorem dX7_least_108 : decode cX7_least 108 = .ok (.iload 6, 2) := by decide +kernel
theorem dX7_least_110 : decode cX7_least 110 = .ok (.iload 4, 2) := by decide +kernel
theorem dX7_least_112 : decode cX7_least 112 = .ok (.iconst 1, 1) := by decide +kernel
theorem dX7_least_113 : decode cX7_least 113 = .ok (.isub, 1) := by decide +kernel
theorem dX7_least_114 : decode cX7_least 114 = .ok (.if_icmp .ne 11, 3) := by decide +kernel
theorem dX7_least_117 : decode cX7_least 117 = .ok (.aload_n 0, 1) := by decide +kernel
theorem dX7_least_118 : decode cX7_least 118 = .ok (.getfield 32, 3) := by decide +kernel
theorem dX7_least_121 : decode cX7_least 121 = .ok (.iload 5, 2) := by decide +kernel
theorem dX7_least_123 : decode cX7_least 123 = .ok (.iaload, 1) := by decide +kernel
theorem dX7_least_124 : decode cX7_least 124 = .ok (.ireturn, 1) := by decide +kernel
theorem dX7_least_125 : decode cX7_least 125 = .ok (.iinc 5 1, 3) := by decide +kernel
theorem dX7_least_128 : decode cX7_least 128 = .ok (.goto (-125), 3) := by decide +kernel
theorem dX7_least_131 : decode cX7_least 131 = .ok (.iconst (-1), 1) := by decide +kernel
theorem dX7_least_132 : decode cX7_least 132 = .ok (.ireturn, 1) := by decide +kernel
set_option maxRecDepth 20000 in
theorem ggX7_isFound_X7_least : GoodIn wsX7_isFound wsX7_least := goodIn_r _ [6, 7, 1, 8, 9, 10, 5, 11, 12, 13, 14, 15, 16, 17, 18, 19, 20, 21, 22, 23, 24, 25, 26, 27, 28, 29, 30] (by decide +kernel) (by decide +kernel)
set_option maxRecDepth 20000 in
theorem gX7_isFound_X7_least : GoodIn wsX7_isFound (wsV RX7 104 RX7 yX7_least wsX7_least) := goodIn_app (goodIn_of _ (by decide +kernel)) ggX7_isFound_X7_least
theorem dX7_isFound_0 : decode cX7_isFound 0 = .ok (.aload_n 0, 1) := by decide +kernel
theorem dX7_isFound_1 : decode cX7_isFound 1 = .ok (.iload_n 1, 1) := by decide +kernel
theorem dX7_isFound_2 : decode cX7_isFound 2 = .ok (.iload_n 2, 1) := by decide +kernel
theorem dX7_isFound_3 : decode cX7_isFound 3 = .ok (.iload_n 3, 1) := by decide +kernel
theorem dX7_isFound_4 : decode cX7_isFound 4 = .ok (.iload 4, 2) := by decide +kernel
theorem dX7_isFound_6 : decode cX7_isFound 6 = .ok (.invokevirtual 104, 3) := by decide +kernel
theorem dX7_isFound_9 : decode cX7_isFound 9 = .ok (.istore 6, 2) := by decide +kernel
theorem dX7_isFound_11 : decode cX7_isFound 11 = .ok (.iload 6, 2) := by decide +kernel
theorem dX7_isFound_13 : decode cX7_isFound 13 = .ok (.iconst (-1), 1) := by decide +kernel
theorem dX7_isFound_14 : decode cX7_isFound 14 = .ok (.if_icmp .eq 24, 3) := by decide +kernel
theorem dX7_isFound_17 : decode cX7_isFound 17 = .ok (.bipush 10, 2) := by decide +kernel
theorem dX7_isFound_19 : decode cX7_isFound 19 = .ok (.aload_n 0, 1) := by decide +kernel
theorem dX7_isFound_20 : decode cX7_isFound 20 = .ok (.getfield 32, 3) := by decide +kernel
theorem dX7_isFound_23 : decode cX7_isFound 23 = .ok (.iload_n 1, 1) := by decide +kernel
theorem dX7_isFound_24 : decode cX7_isFound 24 = .ok (.iaload, 1) := by decide +kernel
theorem dX7_isFound_25 : decode cX7_isFound 25 = .ok (.imul, 1) := by decide +kernel
theorem dX7_isFound_26 : decode cX7_isFound 26 = .ok (.iload 5, 2) := by decide +kernel
theorem dX7_isFound_28 : decode cX7_isFound 28 = .ok (.iload 6, 2) := by decide +kernel
theorem dX7_isFound_30 : decode cX7_isFound 30 = .ok (.imul, 1) := by decide +kernel
theorem dX7_isFound_31 : decode cX7_isFound 31 = .ok (.if_icmp .le 7, 3) := by decide +kernel
theorem dX7_isFound_34 : decode cX7_isFound 34 = .ok (.iconst 1, 1) := by decide +kernel
theorem dX7_isFound_35 : decode cX7_isFound 35 = .ok (.goto 4, 3) := by decide +kernel
theorem dX7_isFound_38 : decode cX7_isFound 38 = .ok (.iconst 0, 1) := by decide +kernel
theorem dX7_isFound_39 : decode cX7_isFound 39 = .ok (.ireturn, 1) := by decide +kernel
set_option maxRecDepth 20000 in
theorem ggX7_isScaled_X7_in : GoodIn wsX7_isScaled wsX7_in := goodIn_r _ [4] (by decide +kernel) (by decide +kernel)
set_option maxRecDepth 20000 in
theorem gX7_isScaled_X7_in : GoodIn wsX7_isScaled (va_wsS RX7 38 yX7_in wsX7_in) := goodIn_app (goodIn_of _ (by decide +kernel)) ggX7_isScaled_X7_in
theorem dX7_isScaled_0 : decode cX7_isScaled 0 = .ok (.iload_n 0, 1) := by decide +kernel
theorem dX7_isScaled_1 : decode cX7_isScaled 1 = .ok (.iconst 1, 1) := by decide +kernel
theorem dX7_isScaled_2 : decode cX7_isScaled 2 = .ok (.bipush 8, 2) := by decide +kernel
theorem dX7_isScaled_4 : decode cX7_isScaled 4 = .ok (.invokestatic 38, 3) := by decide +kernel
theorem dX7_isScaled_7 : decode cX7_isScaled 7 = .ok (.ifCond .eq 37, 3) := by decide +kernel
theorem dX7_isScaled_10 : decode cX7_isScaled 10 = .ok (.iload_n 1, 1) := by decide +kernel
theorem dX7_isScaled_11 : decode cX7_isScaled 11 = .ok (.iconst 0, 1) := by decide +kernel
theorem dX7_isScaled_12 : decode cX7_isScaled 12 = .ok (.iconst 3, 1) := by decide +kernel
theorem dX7_isScaled_13 : decode cX7_isScaled 13 = .ok (.invokestatic 38, 3) := by decide +kernel
theorem dX7_isScaled_16 : decode cX7_isScaled 16 = .ok (.ifCond .eq 28, 3) := by decide +kernel
theorem dX7_isScaled_19 : decode cX7_isScaled 19 = .ok (.iload_n 2, 1) := by decide +kernel
theorem dX7_isScaled_20 : decode cX7_isScaled 20 = .ok (.iconst 1, 1) := by decide +kernel
theorem dX7_isScaled_21 : decode cX7_isScaled 21 = .ok (.bipush 8, 2) := by decide +kernel
theorem dX7_isScaled_23 : decode cX7_isScaled 23 = .ok (.invokestatic 38, 3) := by decide +kernel
theorem dX7_isScaled_26 : decode cX7_isScaled 26 = .ok (.ifCond .eq 18, 3) := by decide +kernel
theorem dX7_isScaled_29 : decode cX7_isScaled 29 = .ok (.iload_n 3, 1) := by decide +kernel
theorem dX7_isScaled_30 : decode cX7_isScaled 30 = .ok (.iconst 1, 1) := by decide +kernel
theorem dX7_isScaled_31 : decode cX7_isScaled 31 = .ok (.sipush 500, 3) := by decide +kernel
theorem dX7_isScaled_34 : decode cX7_isScaled 34 = .ok (.invokestatic 38, 3) := by decide +kernel
theorem dX7_isScaled_37 : decode cX7_isScaled 37 = .ok (.ifCond .eq 7, 3) := by decide +kernel
theorem dX7_isScaled_40 : decode cX7_isScaled 40 = .ok (.iconst 1, 1) := by decide +kernel
theorem dX7_isScaled_41 : decode cX7_isScaled 41 = .ok (.goto 4, 3) := by decide +kernel
theorem dX7_isScaled_44 : decode cX7_isScaled 44 = .ok (.iconst 0, 1) := by decide +kernel
theorem dX7_isScaled_45 : decode cX7_isScaled 45 = .ok (.ireturn, 1) := by decide +kernel
set_option maxRecDepth 20000 in
theorem ggX7_found_X7_in : GoodIn wsX7_found wsX7_in := goodIn_r _ [5] (by decide +kernel) (by decide +kernel)
set_option maxRecDepth 20000 in
theorem gX7_found_X7_in : GoodIn wsX7_found (va_wsS RX7 38 yX7_in wsX7_in) := goodIn_app (goodIn_of _ (by decide +kernel)) ggX7_found_X7_in
set_option maxRecDepth 20000 in
theorem ggX7_found_X7_isScaled : GoodIn wsX7_found wsX7_isScaled := goodIn_r _ [8, 2, 3, 4, 5] (by decide +kernel) (by decide +kernel)
set_option maxRecDepth 20000 in
theorem gX7_found_X7_isScaled : GoodIn wsX7_found (va_wsS RX7 107 yX7_isScaled wsX7_isScaled) := goodIn_app (goodIn_of _ (by decide +kernel)) ggX7_found_X7_isScaled
set_option maxRecDepth 20000 in
theorem ggX7_found_X7_isFound : GoodIn wsX7_found wsX7_isFound := goodIn_r _ [12, 13, 14, 15, 16, 4, 17, 1, 18, 19, 20, 21, 2, 3, 5, 22, 23, 24, 25, 26, 27, 28, 29, 30, 31, 32, 33, 34, 35, 36, 37] (by decide +kernel) (by decide +kernel)
set_option maxRecDepth 20000 in
theorem gX7_found_X7_isFound : GoodIn wsX7_found (wsV RX7 110 RX7 yX7_isFound wsX7_isFound) := goodIn_app (goodIn_of _ (by decide +kernel)) ggX7_found_X7_isFound
theorem dX7_found_0 : decode cX7_found 0 = .ok (.iload_n 1, 1) := by decide +kernel
theorem dX7_found_1 : decode cX7_found 1 = .ok (.iconst 0, 1) := by decide +kernel
theorem dX7_found_2 : decode cX7_found 2 = .ok (.aload_n 0, 1) := by decide +kernel
theorem dX7_found_3 : decode cX7_found 3 = .ok (.getfield 97, 3) := by decide +kernel
theorem dX7_found_6 : decode cX7_found 6 = .ok (.iconst 1, 1) := by decide +kernel
theorem dX7_found_7 : decode cX7_found 7 = .ok (.isub, 1) := by decide +kernel
theorem dX7_found_8 : decode cX7_found 8 = .ok (.invokestatic 38, 3) := by decide +kernel
theorem dX7_found_11 : decode cX7_found 11 = .ok (.ifCond .ne 6, 3) := by decide +kernel
theorem dX7_found_14 : decode cX7_found 14 = .ok (.bipush (-101), 2) := by decide +kernel
theorem dX7_found_16 : decode cX7_found 16 = .ok (.ireturn, 1) := by decide +kernel
theorem dX7_found_17 : decode cX7_found 17 = .ok (.iload_n 2, 1) := by decide +kernel
theorem dX7_found_18 : decode cX7_found 18 = .ok (.iload_n 3, 1) := by decide +kernel
theorem dX7_found_19 : decode cX7_found 19 = .ok (.iload 4, 2) := by decide +kernel
theorem dX7_found_21 : decode cX7_found 21 = .ok (.iload 5, 2) := by decide +kernel
theorem dX7_found_23 : decode cX7_found 23 = .ok (.invokestatic 107, 3) := by decide +kernel
theorem dX7_found_26 : decode cX7_found 26 = .ok (.ifCond .ne 6, 3) := by decide +kernel
theorem dX7_found_29 : decode cX7_found 29 = .ok (.bipush (-102), 2) := by decide +kernel
theorem dX7_found_31 : decode cX7_found 31 = .ok (.ireturn, 1) := by decide +kernel
theorem dX7_found_32 : decode cX7_found 32 = .ok (.aload_n 0, 1) := by decide +kernel
theorem dX7_found_33 : decode cX7_found 33 = .ok (.iload_n 1, 1) := by decide +kernel
theorem dX7_found_34 : decode cX7_found 34 = .ok (.iload_n 2, 1) := by decide +kernel
theorem dX7_found_35 : decode cX7_found 35 = .ok (.iload_n 3, 1) := by decide +kernel
theorem dX7_found_36 : decode cX7_found 36 = .ok (.iload 4, 2) := by decide +kernel
theorem dX7_found_38 : decode cX7_found 38 = .ok (.iload 5, 2) := by decide +kernel
theorem dX7_found_40 : decode cX7_found 40 = .ok (.invokevirtual 110, 3) := by decide +kernel
theorem dX7_found_43 : decode cX7_found 43 = .ok (.ifCond .eq 7, 3) := by decide +kernel
theorem dX7_found_46 : decode cX7_found 46 = .ok (.iconst 1, 1) := by decide +kernel
theorem dX7_found_47 : decode cX7_found 47 = .ok (.goto 4, 3) := by decide +kernel
theorem dX7_found_50 : decode cX7_found 50 = .ok (.iconst 0, 1) := by decide +kernel
theorem dX7_found_51 : decode cX7_found 51 = .ok (.ireturn, 1) := by decide +kernel
set_option maxRecDepth 20000 in
theorem ggX7_count_X7_isScaled : GoodIn wsX7_count wsX7_isScaled := goodIn_r _ [5, 6, 7, 4, 8] (by decide +kernel) (by decide +kernel)
set_option maxRecDepth 20000 in
theorem gX7_count_X7_isScaled : GoodIn wsX7_count (va_wsS RX7 107 yX7_isScaled wsX7_isScaled) := goodIn_app (goodIn_of _ (by decide +kernel)) ggX7_count_X7_isScaled
set_option maxRecDepth 20000 in
theorem ggX7_count_X7_isFound : GoodIn wsX7_count wsX7_isFound := goodIn_r _ [12, 13, 14, 15, 16, 4, 17, 1, 18, 19, 20, 21, 6, 7, 8, 22, 23, 24, 25, 26, 27, 28, 29, 30, 31, 32, 33, 34, 35, 36, 37] (by decide +kernel) (by decide +kernel)
set_option maxRecDepth 20000 in
theorem gX7_count_X7_isFound : GoodIn wsX7_count (wsV RX7 110 RX7 yX7_isFound wsX7_isFound) := goodIn_app (goodIn_of _ (by decide +kernel)) ggX7_count_X7_isFound
theorem dX7_count_0 : decode cX7_count 0 = .ok (.iload_n 1, 1) := by decide +kernel
theorem dX7_count_1 : decode cX7_count 1 = .ok (.iload_n 2, 1) := by decide +kernel
theorem dX7_count_2 : decode cX7_count 2 = .ok (.iload_n 3, 1) := by decide +kernel
theorem dX7_count_3 : decode cX7_count 3 = .ok (.iload 4, 2) := by decide +kernel
theorem dX7_count_5 : decode cX7_count 5 = .ok (.invokestatic 107, 3) := by decide +kernel
theorem dX7_count_8 : decode cX7_count 8 = .ok (.ifCond .ne 6, 3) := by decide +kernel
theorem dX7_count_11 : decode cX7_count 11 = .ok (.bipush (-102), 2) := by decide +kernel
theorem dX7_count_13 : decode cX7_count 13 = .ok (.ireturn, 1) := by decide +kernel
theorem dX7_count_14 : decode cX7_count 14 = .ok (.iconst 0, 1) := by decide +kernel
theorem dX7_count_15 : decode cX7_count 15 = .ok (.istore 5, 2) := by decide +kernel
theorem dX7_count_17 : decode cX7_count 17 = .ok (.iconst 0, 1) := by decide +kernel
theorem dX7_count_18 : decode cX7_count 18 = .ok (.istore 6, 2) := by decide +kernel
theorem dX7_count_20 : decode cX7_count 20 = .ok (.iload 6, 2) := by decide +kernel
theorem dX7_count_22 : decode cX7_count 22 = .ok (.aload_n 0, 1) := by decide +kernel
theorem dX7_count_23 : decode cX7_count 23 = .ok (.getfield 97, 3) := by decide +kernel
theorem dX7_count_26 : decode cX7_count 26 = .ok (.if_icmp .ge 33, 3) := by decide +kernel
theorem dX7_count_29 : decode cX7_count 29 = .ok (.iload 5, 2) := by decide +kernel
theorem dX7_count_31 : decode cX7_count 31 = .ok (.aload_n 0, 1) := by decide +kernel
theorem dX7_count_32 : decode cX7_count 32 = .ok (.iload 6, 2) := by decide +kernel
theorem dX7_count_34 : decode cX7_count 34 = .ok (.iload_n 1, 1) := by decide +kernel
theorem dX7_count_35 : decode cX7_count 35 = .ok (.iload_n 2, 1) := by decide +kernel
theorem dX7_count_36 : decode cX7_count 36 = .ok (.iload_n 3, 1) := by decide +kernel
theorem dX7_count_37 : decode cX7_count 37 = .ok (.iload 4, 2) := by decide +kernel
theorem dX7_count_39 : decode cX7_count 39 = .ok (.invokevirtual 110, 3) := by decide +kernel
theorem dX7_count_42 : decode cX7_count 42 = .ok (.ifCond .eq 7, 3) := by decide +kernel
theorem dX7_count_45 : decode cX7_count 45 = .ok (.iconst 1, 1) := by decide +kernel
theorem dX7_count_46 : decode cX7_count 46 = .ok (.goto 4, 3) := by decide +kernel
theorem dX7_count_49 : decode cX7_count 49 = .ok (.iconst 0, 1) := by decide +kernel
theorem dX7_count_50 : decode cX7_count 50 = .ok (.iadd, 1) := by decide +kernel
theorem dX7_count_51 : decode cX7_count 51 = .ok (.istore 5, 2) := by decide +kernel
theorem dX7_count_53 : decode cX7_count 53 = .ok (.iinc 6 1, 3) := by decide +kernel
theorem dX7_count_56 : decode cX7_count 56 = .ok (.goto (-36), 3) := by decide +kernel
theorem dX7_count_59 : decode cX7_count 59 = .ok (.iload 5, 2) := by decide +kernel
theorem dX7_count_61 : decode cX7_count 61 = .ok (.ireturn, 1) := by decide +kernel
theorem dX7_falses_0 : decode cX7_falses 0 = .ok (.aload_n 0, 1) := by decide +kernel
theorem dX7_falses_1 : decode cX7_falses 1 = .ok (.lconst 1, 1) := by decide +kernel
theorem dX7_falses_2 : decode cX7_falses 2 = .ok (.putfield 114, 3) := by decide +kernel
theorem dX7_falses_5 : decode cX7_falses 5 = .ok (.aload_n 0, 1) := by decide +kernel
theorem dX7_falses_6 : decode cX7_falses 6 = .ok (.lconst 1, 1) := by decide +kernel
theorem dX7_falses_7 : decode cX7_falses 7 = .ok (.putfield 118, 3) := by decide +kernel
theorem dX7_falses_10 : decode cX7_falses 10 = .ok (.iconst 0, 1) := by decide +kernel
theorem dX7_falses_11 : decode cX7_falses 11 = .ok (.istore 4, 2) := by decide +kernel
theorem dX7_falses_13 : decode cX7_falses 13 = .ok (.iload 4, 2) := by decide +kernel
theorem dX7_falses_15 : decode cX7_falses 15 = .ok (.iload_n 2, 1) := by decide +kernel
theorem dX7_falses_16 : decode cX7_falses 16 = .ok (.if_icmp .ge 39, 3) := by decide +kernel
theorem dX7_falses_19 : decode cX7_falses 19 = .ok (.aload_n 0, 1) := by decide +kernel
theorem dX7_falses_20 : decode cX7_falses 20 = .ok (.dup, 1) := by decide +kernel
theorem dX7_falses_21 : decode cX7_falses 21 = .ok (.getfield 114, 3) := by decide +kernel
theorem dX7_falses_24 : decode cX7_falses 24 = .ok (.iload_n 1, 1) := by decide +kernel
theorem dX7_falses_25 : decode cX7_falses 25 = .ok (.iload 4, 2) := by decide +kernel
theorem dX7_falses_27 : decode cX7_falses 27 = .ok (.isub, 1) := by decide +kernel
theorem dX7_falses_28 : decode cX7_falses 28 = .ok (.i2l, 1) := by decide +kernel
theorem dX7_falses_29 : decode cX7_falses 29 = .ok (.lmul, 1) := by decide +kernel
theorem dX7_falses_30 : decode cX7_falses 30 = .ok (.putfield 114, 3) := by decide +kernel
theorem dX7_falses_33 : decode cX7_falses 33 = .ok (.aload_n 0, 1) := by decide +kernel
theorem dX7_falses_34 : decode cX7_falses 34 = .ok (.dup, 1) := by decide +kernel
theorem dX7_falses_35 : decode cX7_falses 35 = .ok (.getfield 118, 3) := by decide +kernel
theorem dX7_falses_38 : decode cX7_falses 38 = .ok (.iload_n 1, 1) := by decide +kernel
theorem dX7_falses_39 : decode cX7_falses 39 = .ok (.iload 4, 2) := by decide +kernel
theorem dX7_falses_41 : decode cX7_falses 41 = .ok (.isub, 1) := by decide +kernel
theorem dX7_falses_42 : decode cX7_falses 42 = .ok (.iload_n 3, 1) := by decide +kernel
theorem dX7_falses_43 : decode cX7_falses 43 = .ok (.iadd, 1) := by decide +kernel
theorem dX7_falses_44 : decode cX7_falses 44 = .ok (.i2l, 1) := by decide +kernel
theorem dX7_falses_45 : decode cX7_falses 45 = .ok (.lmul, 1) := by decide +kernel
theorem dX7_falses_46 : decode cX7_falses 46 = .ok (.putfield 118, 3) := by decide +kernel
theorem dX7_falses_49 : decode cX7_falses 49 = .ok (.iinc 4 1, 3) := by decide +kernel
theorem dX7_falses_52 : decode cX7_falses 52 = .ok (.goto (-39), 3) := by decide +kernel
theorem dX7_falses_55 : decode cX7_falses 55 = .ok (.return_, 1) := by decide +kernel
set_option maxRecDepth 20000 in
theorem ggX7_share_X7_in : GoodIn wsX7_share wsX7_in := goodIn_r _ [7] (by decide +kernel) (by decide +kernel)
set_option maxRecDepth 20000 in
theorem gX7_share_X7_in : GoodIn wsX7_share (va_wsS RX7 38 yX7_in wsX7_in) := goodIn_app (goodIn_of _ (by decide +kernel)) ggX7_share_X7_in
set_option maxRecDepth 20000 in
theorem ggX7_share_X7_falses : GoodIn wsX7_share wsX7_falses := goodIn_r _ [11, 2, 3, 15, 16, 17, 18, 19, 20, 21, 22, 23, 24, 25, 26, 27, 28, 29, 30] (by decide +kernel) (by decide +kernel)
set_option maxRecDepth 20000 in
theorem gX7_share_X7_falses : GoodIn wsX7_share (wsV RX7 123 RX7 yX7_falses wsX7_falses) := goodIn_app (goodIn_of _ (by decide +kernel)) ggX7_share_X7_falses
set_option maxRecDepth 20000 in
theorem ggX7_share_X7_shared : GoodIn wsX7_share wsX7_shared := goodIn_r _ [14] (by decide +kernel) (by decide +kernel)
set_option maxRecDepth 20000 in
theorem gX7_share_X7_shared : GoodIn wsX7_share (va_wsS RX7 93 yX7_shared wsX7_shared) := goodIn_app (goodIn_of _ (by decide +kernel)) ggX7_share_X7_shared
theorem dX7_share_0 : decode cX7_share 0 = .ok (.iload_n 1, 1) := by decide +kernel
theorem dX7_share_1 : decode cX7_share 1 = .ok (.iconst 1, 1) := by decide +kernel
theorem dX7_share_2 : decode cX7_share 2 = .ok (.bipush 8, 2) := by decide +kernel
theorem dX7_share_4 : decode cX7_share 4 = .ok (.invokestatic 38, 3) := by decide +kernel
theorem dX7_share_7 : decode cX7_share 7 = .ok (.ifCond .eq 32, 3) := by decide +kernel
theorem dX7_share_10 : decode cX7_share 10 = .ok (.iload_n 2, 1) := by decide +kernel
theorem dX7_share_11 : decode cX7_share 11 = .ok (.iconst 1, 1) := by decide +kernel
theorem dX7_share_12 : decode cX7_share 12 = .ok (.iload_n 1, 1) := by decide +kernel
theorem dX7_share_13 : decode cX7_share 13 = .ok (.invokestatic 38, 3) := by decide +kernel
theorem dX7_share_16 : decode cX7_share 16 = .ok (.ifCond .eq 23, 3) := by decide +kernel
theorem dX7_share_19 : decode cX7_share 19 = .ok (.iload_n 3, 1) := by decide +kernel
theorem dX7_share_20 : decode cX7_share 20 = .ok (.iconst 1, 1) := by decide +kernel
theorem dX7_share_21 : decode cX7_share 21 = .ok (.bipush 40, 2) := by decide +kernel
theorem dX7_share_23 : decode cX7_share 23 = .ok (.invokestatic 38, 3) := by decide +kernel
theorem dX7_share_26 : decode cX7_share 26 = .ok (.ifCond .eq 13, 3) := by decide +kernel
theorem dX7_share_29 : decode cX7_share 29 = .ok (.iload 4, 2) := by decide +kernel
theorem dX7_share_31 : decode cX7_share 31 = .ok (.iconst 0, 1) := by decide +kernel
theorem dX7_share_32 : decode cX7_share 32 = .ok (.iconst 1, 1) := by decide +kernel
theorem dX7_share_33 : decode cX7_share 33 = .ok (.invokestatic 38, 3) := by decide +kernel
theorem dX7_share_36 : decode cX7_share 36 = .ok (.ifCond .ne 7, 3) := by decide +kernel
theorem dX7_share_39 : decode cX7_share 39 = .ok (.ldc2_w 121, 3) := by decide +kernel
theorem dX7_share_42 : decode cX7_share 42 = .ok (.lreturn, 1) := by decide +kernel
theorem dX7_share_43 : decode cX7_share 43 = .ok (.aload_n 0, 1) := by decide +kernel
theorem dX7_share_44 : decode cX7_share 44 = .ok (.iload_n 1, 1) := by decide +kernel
theorem dX7_share_45 : decode cX7_share 45 = .ok (.iload_n 2, 1) := by decide +kernel
theorem dX7_share_46 : decode cX7_share 46 = .ok (.iload_n 3, 1) := by decide +kernel
theorem dX7_share_47 : decode cX7_share 47 = .ok (.invokevirtual 123, 3) := by decide +kernel
theorem dX7_share_50 : decode cX7_share 50 = .ok (.aload_n 0, 1) := by decide +kernel
theorem dX7_share_51 : decode cX7_share 51 = .ok (.getfield 114, 3) := by decide +kernel
theorem dX7_share_54 : decode cX7_share 54 = .ok (.aload_n 0, 1) := by decide +kernel
theorem dX7_share_55 : decode cX7_share 55 = .ok (.getfield 118, 3) := by decide +kernel
theorem dX7_share_58 : decode cX7_share 58 = .ok (.invokestatic 93, 3) := by decide +kernel
theorem dX7_share_61 : decode cX7_share 61 = .ok (.lstore 5, 2) := by decide +kernel
theorem dX7_share_63 : decode cX7_share 63 = .ok (.iload 4, 2) := by decide +kernel
theorem dX7_share_65 : decode cX7_share 65 = .ok (.ifCond .ne 13, 3) := by decide +kernel
theorem dX7_share_68 : decode cX7_share 68 = .ok (.aload_n 0, 1) := by decide +kernel
theorem dX7_share_69 : decode cX7_share 69 = .ok (.getfield 114, 3) := by decide +kernel
theorem dX7_share_72 : decode cX7_share 72 = .ok (.lload 5, 2) := by decide +kernel
theorem dX7_share_74 : decode cX7_share 74 = .ok (.ldiv, 1) := by decide +kernel
theorem dX7_share_75 : decode cX7_share 75 = .ok (.goto 10, 3) := by decide +kernel
theorem dX7_share_78 : decode cX7_share 78 = .ok (.aload_n 0, 1) := by decide +kernel
theorem dX7_share_79 : decode cX7_share 79 = .ok (.getfield 118, 3) := by decide +kernel
theorem dX7_share_82 : decode cX7_share 82 = .ok (.lload 5, 2) := by decide +kernel
theorem dX7_share_84 : decode cX7_share 84 = .ok (.ldiv, 1) := by decide +kernel
theorem dX7_share_85 : decode cX7_share 85 = .ok (.lreturn, 1) := by decide +kernel
set_option maxRecDepth 20000 in
theorem ggX7_scale_X7_in : GoodIn wsX7_scale wsX7_in := goodIn_r _ [7] (by decide +kernel) (by decide +kernel)
set_option maxRecDepth 20000 in
theorem gX7_scale_X7_in : GoodIn wsX7_scale (va_wsS RX7 38 yX7_in wsX7_in) := goodIn_app (goodIn_of _ (by decide +kernel)) ggX7_scale_X7_in
set_option maxRecDepth 20000 in
theorem ggX7_scale_X7_falses : GoodIn wsX7_scale wsX7_falses := goodIn_r _ [11, 2, 3, 12, 13, 14, 15, 16, 17, 18, 19, 20, 21, 22, 23, 24, 25, 26, 27] (by decide +kernel) (by decide +kernel)
set_option maxRecDepth 20000 in
theorem gX7_scale_X7_falses : GoodIn wsX7_scale (wsV RX7 123 RX7 yX7_falses wsX7_falses) := goodIn_app (goodIn_of _ (by decide +kernel)) ggX7_scale_X7_falses
theorem dX7_scale_0 : decode cX7_scale 0 = .ok (.iload_n 1, 1) := by decide +kernel
theorem dX7_scale_1 : decode cX7_scale 1 = .ok (.iconst 1, 1) := by decide +kernel
theorem dX7_scale_2 : decode cX7_scale 2 = .ok (.bipush 8, 2) := by decide +kernel
theorem dX7_scale_4 : decode cX7_scale 4 = .ok (.invokestatic 38, 3) := by decide +kernel
theorem dX7_scale_7 : decode cX7_scale 7 = .ok (.ifCond .eq 22, 3) := by decide +kernel
theorem dX7_scale_10 : decode cX7_scale 10 = .ok (.iload_n 2, 1) := by decide +kernel
theorem dX7_scale_11 : decode cX7_scale 11 = .ok (.iconst 1, 1) := by decide +kernel
theorem dX7_scale_12 : decode cX7_scale 12 = .ok (.iload_n 1, 1) := by decide +kernel
theorem dX7_scale_13 : decode cX7_scale 13 = .ok (.invokestatic 38, 3) := by decide +kernel
theorem dX7_scale_16 : decode cX7_scale 16 = .ok (.ifCond .eq 13, 3) := by decide +kernel
theorem dX7_scale_19 : decode cX7_scale 19 = .ok (.iload_n 3, 1) := by decide +kernel
theorem dX7_scale_20 : decode cX7_scale 20 = .ok (.iconst 1, 1) := by decide +kernel
theorem dX7_scale_21 : decode cX7_scale 21 = .ok (.ldc 126, 2) := by decide +kernel
theorem dX7_scale_23 : decode cX7_scale 23 = .ok (.invokestatic 38, 3) := by decide +kernel
theorem dX7_scale_26 : decode cX7_scale 26 = .ok (.ifCond .ne 6, 3) := by decide +kernel
theorem dX7_scale_29 : decode cX7_scale 29 = .ok (.bipush (-102), 2) := by decide +kernel
theorem dX7_scale_31 : decode cX7_scale 31 = .ok (.ireturn, 1) := by decide +kernel
theorem dX7_scale_32 : decode cX7_scale 32 = .ok (.iconst 1, 1) := by decide +kernel
theorem dX7_scale_33 : decode cX7_scale 33 = .ok (.istore 4, 2) := by decide +kernel
theorem dX7_scale_35 : decode cX7_scale 35 = .ok (.iload 4, 2) := by decide +kernel
theorem dX7_scale_37 : decode cX7_scale 37 = .ok (.bipush 40, 2) := by decide +kernel
theorem dX7_scale_39 : decode cX7_scale 39 = .ok (.if_icmp .gt 35, 3) := by decide +kernel
theorem dX7_scale_42 : decode cX7_scale 42 = .ok (.aload_n 0, 1) := by decide +kernel
theorem dX7_scale_43 : decode cX7_scale 43 = .ok (.iload_n 1, 1) := by decide +kernel
theorem dX7_scale_44 : decode cX7_scale 44 = .ok (.iload_n 2, 1) := by decide +kernel
theorem dX7_scale_45 : decode cX7_scale 45 = .ok (.iload 4, 2) := by decide +kernel
theorem dX7_scale_47 : decode cX7_scale 47 = .ok (.invokevirtual 123, 3) := by decide +kernel
theorem dX7_scale_50 : decode cX7_scale 50 = .ok (.aload_n 0, 1) := by decide +kernel
theorem dX7_scale_51 : decode cX7_scale 51 = .ok (.getfield 114, 3) := by decide +kernel
theorem dX7_scale_54 : decode cX7_scale 54 = .ok (.iload_n 3, 1) := by decide +kernel
theorem dX7_scale_55 : decode cX7_scale 55 = .ok (.i2l, 1) := by decide +kernel
theorem dX7_scale_56 : decode cX7_scale 56 = .ok (.lmul, 1) := by decide +kernel
theorem dX7_scale_57 : decode cX7_scale 57 = .ok (.aload_n 0, 1) := by decide +kernel
theorem dX7_scale_58 : decode cX7_scale 58 = .ok (.getfield 118, 3) := by decide +kernel
theorem dX7_scale_61 : decode cX7_scale 61 = .ok (.lcmp, 1) := by decide +kernel
theorem dX7_scale_62 : decode cX7_scale 62 = .ok (.ifCond .gt 6, 3) := by decide +kernel
theorem dX7_scale_65 : decode cX7_scale 65 = .ok (.iload 4, 2) := by decide +kernel
theorem dX7_scale_67 : decode cX7_scale 67 = .ok (.ireturn, 1) := by decide +kernel
theorem dX7_scale_68 : decode cX7_scale 68 = .ok (.iinc 4 1, 3) := by decide +kernel
theorem dX7_scale_71 : decode cX7_scale 71 = .ok (.goto (-36), 3) := by decide +kernel
theorem dX7_scale_74 : decode cX7_scale 74 = .ok (.iconst (-1), 1) := by decide +kernel
theorem dX7_scale_75 : decode cX7_scale 75 = .ok (.ireturn, 1) := by decide +kernel
theorem dX7_told_0 : decode cX7_told 0 = .ok (.iload_n 1, 1) := by decide +kernel
theorem dX7_told_1 : decode cX7_told 1 = .ok (.ifCond .ne 10, 3) := by decide +kernel
theorem dX7_told_4 : decode cX7_told 4 = .ok (.aload_n 0, 1) := by decide +kernel
theorem dX7_told_5 : decode cX7_told 5 = .ok (.getfield 16, 3) := by decide +kernel
theorem dX7_told_8 : decode cX7_told 8 = .ok (.goto 41, 3) := by decide +kernel
theorem dX7_told_11 : decode cX7_told 11 = .ok (.iload_n 1, 1) := by decide +kernel
theorem dX7_told_12 : decode cX7_told 12 = .ok (.iconst 1, 1) := by decide +kernel
theorem dX7_told_13 : decode cX7_told 13 = .ok (.if_icmp .ne 10, 3) := by decide +kernel
theorem dX7_told_16 : decode cX7_told 16 = .ok (.aload_n 0, 1) := by decide +kernel
theorem dX7_told_17 : decode cX7_told 17 = .ok (.getfield 23, 3) := by decide +kernel
theorem dX7_told_20 : decode cX7_told 20 = .ok (.goto 29, 3) := by decide +kernel
theorem dX7_told_23 : decode cX7_told 23 = .ok (.iload_n 1, 1) := by decide +kernel
theorem dX7_told_24 : decode cX7_told 24 = .ok (.iconst 2, 1) := by decide +kernel
theorem dX7_told_25 : decode cX7_told 25 = .ok (.if_icmp .ne 10, 3) := by decide +kernel
theorem dX7_told_28 : decode cX7_told 28 = .ok (.aload_n 0, 1) := by decide +kernel
theorem dX7_told_29 : decode cX7_told 29 = .ok (.getfield 97, 3) := by decide +kernel
theorem dX7_told_32 : decode cX7_told 32 = .ok (.goto 17, 3) := by decide +kernel
theorem dX7_told_35 : decode cX7_told 35 = .ok (.iload_n 1, 1) := by decide +kernel
theorem dX7_told_36 : decode cX7_told 36 = .ok (.iconst 3, 1) := by decide +kernel
theorem dX7_told_37 : decode cX7_told 37 = .ok (.if_icmp .ne 10, 3) := by decide +kernel
theorem dX7_told_40 : decode cX7_told 40 = .ok (.aload_n 0, 1) := by decide +kernel
theorem dX7_told_41 : decode cX7_told 41 = .ok (.getfield 67, 3) := by decide +kernel
theorem dX7_told_44 : decode cX7_told 44 = .ok (.goto 5, 3) := by decide +kernel
theorem dX7_told_47 : decode cX7_told 47 = .ok (.bipush (-102), 2) := by decide +kernel
theorem dX7_told_49 : decode cX7_told 49 = .ok (.ireturn, 1) := by decide +kernel
theorem dX7_mix_0 : decode cX7_mix 0 = .ok (.aload_n 0, 1) := by decide +kernel
theorem dX7_mix_1 : decode cX7_mix 1 = .ok (.ldc2_w 127, 3) := by decide +kernel
theorem dX7_mix_4 : decode cX7_mix 4 = .ok (.aload_n 0, 1) := by decide +kernel
theorem dX7_mix_5 : decode cX7_mix 5 = .ok (.getfield 129, 3) := by decide +kernel
theorem dX7_mix_8 : decode cX7_mix 8 = .ok (.lmul, 1) := by decide +kernel
theorem dX7_mix_9 : decode cX7_mix 9 = .ok (.lload_n 1, 1) := by decide +kernel
theorem dX7_mix_10 : decode cX7_mix 10 = .ok (.ladd, 1) := by decide +kernel
theorem dX7_mix_11 : decode cX7_mix 11 = .ok (.putfield 129, 3) := by decide +kernel
theorem dX7_mix_14 : decode cX7_mix 14 = .ok (.return_, 1) := by decide +kernel
set_option maxRecDepth 20000 in
theorem ggX7_digest_X7_mix : GoodIn wsX7_digest wsX7_mix := goodIn_r _ [17, 18, 2, 19, 20, 21, 22, 23, 24, 25, 26, 27, 28, 29, 30, 31, 32, 33, 34] (by decide +kernel) (by decide +kernel)
set_option maxRecDepth 20000 in
theorem gX7_digest_X7_mix : GoodIn wsX7_digest (wsV RX7 134 RX7 yX7_mix wsX7_mix) := goodIn_app (goodIn_of _ (by decide +kernel)) ggX7_digest_X7_mix
theorem dX7_digest_0 : decode cX7_digest 0 = .ok (.aload_n 0, 1) := by decide +kernel
theorem dX7_digest_1 : decode cX7_digest 1 = .ok (.ldc2_w 132, 3) := by decide +kernel
theorem dX7_digest_4 : decode cX7_digest 4 = .ok (.putfield 129, 3) := by decide +kernel
theorem dX7_digest_7 : decode cX7_digest 7 = .ok (.iconst 0, 1) := by decide +kernel
theorem dX7_digest_8 : decode cX7_digest 8 = .ok (.istore_n 1, 1) := by decide +kernel
theorem dX7_digest_9 : decode cX7_digest 9 = .ok (.iload_n 1, 1) := by decide +kernel
theorem dX7_digest_10 : decode cX7_digest 10 = .ok (.bipush 6, 2) := by decide +kernel
theorem dX7_digest_12 : decode cX7_digest 12 = .ok (.if_icmp .ge 54, 3) := by decide +kernel
theorem dX7_digest_15 : decode cX7_digest 15 = .ok (.aload_n 0, 1) := by decide +kernel
theorem dX7_digest_16 : decode cX7_digest 16 = .ok (.aload_n 0, 1) := by decide +kernel
theorem dX7_digest_17 : decode cX7_digest 17 = .ok (.getfield 7, 3) := by decide +kernel
theorem dX7_digest_20 : decode cX7_digest 20 = .ok (.iload_n 1, 1) := by decide +kernel
theorem dX7_digest_21 : decode cX7_digest 21 = .ok (.iaload, 1) := by decide +kernel
theorem dX7_digest_22 : decode cX7_digest 22 = .ok (.i2l, 1) := by decide +kernel
theorem dX7_digest_23 : decode cX7_digest 23 = .ok (.invokevirtual 134, 3) := by decide +kernel
theorem dX7_digest_26 : decode cX7_digest 26 = .ok (.iconst 0, 1) := by decide +kernel
theorem dX7_digest_27 : decode cX7_digest 27 = .ok (.istore_n 2, 1) := by decide +kernel
theorem dX7_digest_28 : decode cX7_digest 28 = .ok (.iload_n 2, 1) := by decide +kernel
theorem dX7_digest_29 : decode cX7_digest 29 = .ok (.aload_n 0, 1) := by decide +kernel
theorem dX7_digest_30 : decode cX7_digest 30 = .ok (.getfield 7, 3) := by decide +kernel
theorem dX7_digest_33 : decode cX7_digest 33 = .ok (.iload_n 1, 1) := by decide +kernel
theorem dX7_digest_34 : decode cX7_digest 34 = .ok (.iaload, 1) := by decide +kernel
theorem dX7_digest_35 : decode cX7_digest 35 = .ok (.if_icmp .ge 25, 3) := by decide +kernel
theorem dX7_digest_38 : decode cX7_digest 38 = .ok (.aload_n 0, 1) := by decide +kernel
theorem dX7_digest_39 : decode cX7_digest 39 = .ok (.aload_n 0, 1) := by decide +kernel
theorem dX7_digest_40 : decode cX7_digest 40 = .ok (.getfield 13, 3) := by decide +kernel
theorem dX7_digest_43 : decode cX7_digest 43 = .ok (.bipush 16, 2) := by decide +kernel
theorem dX7_digest_45 : decode cX7_digest 45 = .ok (.iload_n 1, 1) := by decide +kernel
theorem dX7_digest_46 : decode cX7_digest 46 = .ok (.imul, 1) := by decide +kernel
theorem dX7_digest_47 : decode cX7_digest 47 = .ok (.iload_n 2, 1) := by decide +kernel
theorem dX7_digest_48 : decode cX7_digest 48 = .ok (.iadd, 1) := by decide +kernel
theorem dX7_digest_49 : decode cX7_digest 49 = .ok (.iaload, 1) := by decide +kernel
theorem dX7_digest_50 : decode cX7_digest 50 = .ok (.i2l, 1) := by decide +kernel
theorem dX7_digest_51 : decode cX7_digest 51 = .ok (.invokevirtual 134, 3) := by decide +kernel
theorem dX7_digest_54 : decode cX7_digest 54 = .ok (.iinc 2 1, 3) := by decide +kernel
theorem dX7_digest_57 : decode cX7_digest 57 = .ok (.goto (-29), 3) := by decide +kernel
theorem dX7_digest_60 : decode cX7_digest 60 = .ok (.iinc 1 1, 3) := by decide +kernel
theorem dX7_digest_63 : decode cX7_digest 63 = .ok (.goto (-54), 3) := by decide +kernel
theorem dX7_digest_66 : decode cX7_digest 66 = .ok (.aload_n 0, 1) := by decide +kernel
theorem dX7_digest_67 : decode cX7_digest 67 = .ok (.aload_n 0, 1) := by decide +kernel
theorem dX7_digest_68 : decode cX7_digest 68 = .ok (.getfield 16, 3) := by decide +kernel
theorem dX7_digest_71 : decode cX7_digest 71 = .ok (.i2l, 1) := by decide +kernel
theorem dX7_digest_72 : decode cX7_digest 72 = .ok (.invokevirtual 134, 3) := by decide +kernel
theorem dX7_digest_75 : decode cX7_digest 75 = .ok (.iconst 0, 1) := by decide +kernel
theorem dX7_digest_76 : decode cX7_digest 76 = .ok (.istore_n 1, 1) := by decide +kernel
theorem dX7_digest_77 : decode cX7_digest 77 = .ok (.iload_n 1, 1) := by decide +kernel
theorem dX7_digest_78 : decode cX7_digest 78 = .ok (.aload_n 0, 1) := by decide +kernel
theorem dX7_digest_79 : decode cX7_digest 79 = .ok (.getfield 16, 3) := by decide +kernel
theorem dX7_digest_82 : decode cX7_digest 82 = .ok (.if_icmp .ge 20, 3) := by decide +kernel
theorem dX7_digest_85 : decode cX7_digest 85 = .ok (.aload_n 0, 1) := by decide +kernel
theorem dX7_digest_86 : decode cX7_digest 86 = .ok (.aload_n 0, 1) := by decide +kernel
theorem dX7_digest_87 : decode cX7_digest 87 = .ok (.getfield 20, 3) := by decide +kernel
theorem dX7_digest_90 : decode cX7_digest 90 = .ok (.iload_n 1, 1) := by decide +kernel
theorem dX7_digest_91 : decode cX7_digest 91 = .ok (.iaload, 1) := by decide +kernel
theorem dX7_digest_92 : decode cX7_digest 92 = .ok (.i2l, 1) := by decide +kernel
theorem dX7_digest_93 : decode cX7_digest 93 = .ok (.invokevirtual 134, 3) := by decide +kernel
theorem dX7_digest_96 : decode cX7_digest 96 = .ok (.iinc 1 1, 3) := by decide +kernel
theorem dX7_digest_99 : decode cX7_digest 99 = .ok (.goto (-22), 3) := by decide +kernel
theorem dX7_digest_102 : decode cX7_digest 102 = .ok (.aload_n 0, 1) := by decide +kernel
theorem dX7_digest_103 : decode cX7_digest 103 = .ok (.aload_n 0, 1) := by decide +kernel
theorem dX7_digest_104 : decode cX7_digest 104 = .ok (.getfield 23, 3) := by decide +kernel
theorem dX7_digest_107 : decode cX7_digest 107 = .ok (.i2l, 1) := by decide +kernel
theorem dX7_digest_108 : decode cX7_digest 108 = .ok (.invokevirtual 134, 3) := by decide +kernel
theorem dX7_digest_111 : decode cX7_digest 111 = .ok (.iconst 0, 1) := by decide +kernel
theorem dX7_digest_112 : decode cX7_digest 112 = .ok (.istore_n 1, 1) := by decide +kernel
theorem dX7_digest_113 : decode cX7_digest 113 = .ok (.iload_n 1, 1) := by decide +kernel
theorem dX7_digest_114 : decode cX7_digest 114 = .ok (.aload_n 0, 1) := by decide +kernel
theorem dX7_digest_115 : decode cX7_digest 115 = .ok (.getfield 23, 3) := by decide +kernel
theorem dX7_digest_118 : decode cX7_digest 118 = .ok (.if_icmp .ge 31, 3) := by decide +kernel
theorem dX7_digest_121 : decode cX7_digest 121 = .ok (.aload_n 0, 1) := by decide +kernel
theorem dX7_digest_122 : decode cX7_digest 122 = .ok (.aload_n 0, 1) := by decide +kernel
theorem dX7_digest_123 : decode cX7_digest 123 = .ok (.getfield 26, 3) := by decide +kernel
theorem dX7_digest_126 : decode cX7_digest 126 = .ok (.iload_n 1, 1) := by decide +kernel
theorem dX7_digest_127 : decode cX7_digest 127 = .ok (.iaload, 1) := by decide +kernel
theorem dX7_digest_128 : decode cX7_digest 128 = .ok (.i2l, 1) := by decide +kernel
theorem dX7_digest_129 : decode cX7_digest 129 = .ok (.invokevirtual 134, 3) := by decide +kernel
theorem dX7_digest_132 : decode cX7_digest 132 = .ok (.aload_n 0, 1) := by decide +kernel
theorem dX7_digest_133 : decode cX7_digest 133 = .ok (.aload_n 0, 1) := by decide +kernel
theorem dX7_digest_134 : decode cX7_digest 134 = .ok (.getfield 29, 3) := by decide +kernel
theorem dX7_digest_137 : decode cX7_digest 137 = .ok (.iload_n 1, 1) := by decide +kernel
theorem dX7_digest_138 : decode cX7_digest 138 = .ok (.iaload, 1) := by decide +kernel
theorem dX7_digest_139 : decode cX7_digest 139 = .ok (.i2l, 1) := by decide +kernel
theorem dX7_digest_140 : decode cX7_digest 140 = .ok (.invokevirtual 134, 3) := by decide +kernel
theorem dX7_digest_143 : decode cX7_digest 143 = .ok (.iinc 1 1, 3) := by decide +kernel
theorem dX7_digest_146 : decode cX7_digest 146 = .ok (.goto (-33), 3) := by decide +kernel
theorem dX7_digest_149 : decode cX7_digest 149 = .ok (.iconst 0, 1) := by decide +kernel
theorem dX7_digest_150 : decode cX7_digest 150 = .ok (.istore_n 1, 1) := by decide +kernel
theorem dX7_digest_151 : decode cX7_digest 151 = .ok (.iload_n 1, 1) := by decide +kernel
theorem dX7_digest_152 : decode cX7_digest 152 = .ok (.aload_n 0, 1) := by decide +kernel
theorem dX7_digest_153 : decode cX7_digest 153 = .ok (.getfield 97, 3) := by decide +kernel
theorem dX7_digest_156 : decode cX7_digest 156 = .ok (.if_icmp .ge 20, 3) := by decide +kernel
theorem dX7_digest_159 : decode cX7_digest 159 = .ok (.aload_n 0, 1) := by decide +kernel
theorem dX7_digest_160 : decode cX7_digest 160 = .ok (.aload_n 0, 1) := by decide +kernel
theorem dX7_digest_161 : decode cX7_digest 161 = .ok (.getfield 32, 3) := by decide +kernel
theorem dX7_digest_164 : decode cX7_digest 164 = .ok (.iload_n 1, 1) := by decide +kernel
theorem dX7_digest_165 : decode cX7_digest 165 = .ok (.iaload, 1) := by decide +kernel
theorem dX7_digest_166 : decode cX7_digest 166 = .ok (.i2l, 1) := by decide +kernel
theorem dX7_digest_167 : decode cX7_digest 167 = .ok (.invokevirtual 134, 3) := by decide +kernel
theorem dX7_digest_170 : decode cX7_digest 170 = .ok (.iinc 1 1, 3) := by decide +kernel
theorem dX7_digest_173 : decode cX7_digest 173 = .ok (.goto (-22), 3) := by decide +kernel
theorem dX7_digest_176 : decode cX7_digest 176 = .ok (.aload_n 0, 1) := by decide +kernel
theorem dX7_digest_177 : decode cX7_digest 177 = .ok (.aload_n 0, 1) := by decide +kernel
theorem dX7_digest_178 : decode cX7_digest 178 = .ok (.getfield 67, 3) := by decide +kernel
theorem dX7_digest_181 : decode cX7_digest 181 = .ok (.i2l, 1) := by decide +kernel
theorem dX7_digest_182 : decode cX7_digest 182 = .ok (.invokevirtual 134, 3) := by decide +kernel
theorem dX7_digest_185 : decode cX7_digest 185 = .ok (.aload_n 0, 1) := by decide +kernel
theorem dX7_digest_186 : decode cX7_digest 186 = .ok (.getfield 129, 3) := by decide +kernel
theorem dX7_digest_189 : decode cX7_digest 189 = .ok (.lreturn, 1) := by decide +kernel
theorem dJ6_bitCount_0f7a4_0 : decode cJ6_bitCount_0f7a4 0 = .ok (.iload_n 0, 1) := by decide +kernel
theorem dJ6_bitCount_0f7a4_1 : decode cJ6_bitCount_0f7a4 1 = .ok (.iload_n 0, 1) := by decide +kernel
theorem dJ6_bitCount_0f7a4_2 : decode cJ6_bitCount_0f7a4 2 = .ok (.iconst 1, 1) := by decide +kernel
theorem dJ6_bitCount_0f7a4_3 : decode cJ6_bitCount_0f7a4 3 = .ok (.iushr, 1) := by decide +kernel
theorem dJ6_bitCount_0f7a4_4 : decode cJ6_bitCount_0f7a4 4 = .ok (.ldc_w 265, 3) := by decide +kernel
theorem dJ6_bitCount_0f7a4_7 : decode cJ6_bitCount_0f7a4 7 = .ok (.iand, 1) := by decide +kernel
theorem dJ6_bitCount_0f7a4_8 : decode cJ6_bitCount_0f7a4 8 = .ok (.isub, 1) := by decide +kernel
theorem dJ6_bitCount_0f7a4_9 : decode cJ6_bitCount_0f7a4 9 = .ok (.istore_n 0, 1) := by decide +kernel
theorem dJ6_bitCount_0f7a4_10 : decode cJ6_bitCount_0f7a4 10 = .ok (.iload_n 0, 1) := by decide +kernel
theorem dJ6_bitCount_0f7a4_11 : decode cJ6_bitCount_0f7a4 11 = .ok (.ldc_w 266, 3) := by decide +kernel
theorem dJ6_bitCount_0f7a4_14 : decode cJ6_bitCount_0f7a4 14 = .ok (.iand, 1) := by decide +kernel
theorem dJ6_bitCount_0f7a4_15 : decode cJ6_bitCount_0f7a4 15 = .ok (.iload_n 0, 1) := by decide +kernel
theorem dJ6_bitCount_0f7a4_16 : decode cJ6_bitCount_0f7a4 16 = .ok (.iconst 2, 1) := by decide +kernel
theorem dJ6_bitCount_0f7a4_17 : decode cJ6_bitCount_0f7a4 17 = .ok (.iushr, 1) := by decide +kernel
theorem dJ6_bitCount_0f7a4_18 : decode cJ6_bitCount_0f7a4 18 = .ok (.ldc_w 266, 3) := by decide +kernel
theorem dJ6_bitCount_0f7a4_21 : decode cJ6_bitCount_0f7a4 21 = .ok (.iand, 1) := by decide +kernel
theorem dJ6_bitCount_0f7a4_22 : decode cJ6_bitCount_0f7a4 22 = .ok (.iadd, 1) := by decide +kernel
theorem dJ6_bitCount_0f7a4_23 : decode cJ6_bitCount_0f7a4 23 = .ok (.istore_n 0, 1) := by decide +kernel
theorem dJ6_bitCount_0f7a4_24 : decode cJ6_bitCount_0f7a4 24 = .ok (.iload_n 0, 1) := by decide +kernel
theorem dJ6_bitCount_0f7a4_25 : decode cJ6_bitCount_0f7a4 25 = .ok (.iload_n 0, 1) := by decide +kernel
theorem dJ6_bitCount_0f7a4_26 : decode cJ6_bitCount_0f7a4 26 = .ok (.iconst 4, 1) := by decide +kernel
theorem dJ6_bitCount_0f7a4_27 : decode cJ6_bitCount_0f7a4 27 = .ok (.iushr, 1) := by decide +kernel
theorem dJ6_bitCount_0f7a4_28 : decode cJ6_bitCount_0f7a4 28 = .ok (.iadd, 1) := by decide +kernel
theorem dJ6_bitCount_0f7a4_29 : decode cJ6_bitCount_0f7a4 29 = .ok (.ldc_w 267, 3) := by decide +kernel
theorem dJ6_bitCount_0f7a4_32 : decode cJ6_bitCount_0f7a4 32 = .ok (.iand, 1) := by decide +kernel
theorem dJ6_bitCount_0f7a4_33 : decode cJ6_bitCount_0f7a4 33 = .ok (.istore_n 0, 1) := by decide +kernel
theorem dJ6_bitCount_0f7a4_34 : decode cJ6_bitCount_0f7a4 34 = .ok (.iload_n 0, 1) := by decide +kernel
theorem dJ6_bitCount_0f7a4_35 : decode cJ6_bitCount_0f7a4 35 = .ok (.iload_n 0, 1) := by decide +kernel
theorem dJ6_bitCount_0f7a4_36 : decode cJ6_bitCount_0f7a4 36 = .ok (.bipush 8, 2) := by decide +kernel
theorem dJ6_bitCount_0f7a4_38 : decode cJ6_bitCount_0f7a4 38 = .ok (.iushr, 1) := by decide +kernel
theorem dJ6_bitCount_0f7a4_39 : decode cJ6_bitCount_0f7a4 39 = .ok (.iadd, 1) := by decide +kernel
theorem dJ6_bitCount_0f7a4_40 : decode cJ6_bitCount_0f7a4 40 = .ok (.istore_n 0, 1) := by decide +kernel
theorem dJ6_bitCount_0f7a4_41 : decode cJ6_bitCount_0f7a4 41 = .ok (.iload_n 0, 1) := by decide +kernel
theorem dJ6_bitCount_0f7a4_42 : decode cJ6_bitCount_0f7a4 42 = .ok (.iload_n 0, 1) := by decide +kernel
theorem dJ6_bitCount_0f7a4_43 : decode cJ6_bitCount_0f7a4 43 = .ok (.bipush 16, 2) := by decide +kernel
theorem dJ6_bitCount_0f7a4_45 : decode cJ6_bitCount_0f7a4 45 = .ok (.iushr, 1) := by decide +kernel
theorem dJ6_bitCount_0f7a4_46 : decode cJ6_bitCount_0f7a4 46 = .ok (.iadd, 1) := by decide +kernel
theorem dJ6_bitCount_0f7a4_47 : decode cJ6_bitCount_0f7a4 47 = .ok (.istore_n 0, 1) := by decide +kernel
theorem dJ6_bitCount_0f7a4_48 : decode cJ6_bitCount_0f7a4 48 = .ok (.iload_n 0, 1) := by decide +kernel
theorem dJ6_bitCount_0f7a4_49 : decode cJ6_bitCount_0f7a4 49 = .ok (.bipush 63, 2) := by decide +kernel
theorem dJ6_bitCount_0f7a4_51 : decode cJ6_bitCount_0f7a4 51 = .ok (.iand, 1) := by decide +kernel
theorem dJ6_bitCount_0f7a4_52 : decode cJ6_bitCount_0f7a4 52 = .ok (.ireturn, 1) := by decide +kernel
theorem dJ9_abs_0f7a4_0 : decode cJ9_abs_0f7a4 0 = .ok (.iload_n 0, 1) := by decide +kernel
theorem dJ9_abs_0f7a4_1 : decode cJ9_abs_0f7a4 1 = .ok (.ifCond .ge 8, 3) := by decide +kernel
theorem dJ9_abs_0f7a4_4 : decode cJ9_abs_0f7a4 4 = .ok (.iload_n 0, 1) := by decide +kernel
theorem dJ9_abs_0f7a4_5 : decode cJ9_abs_0f7a4 5 = .ok (.ineg, 1) := by decide +kernel
theorem dJ9_abs_0f7a4_6 : decode cJ9_abs_0f7a4 6 = .ok (.goto 4, 3) := by decide +kernel
theorem dJ9_abs_0f7a4_9 : decode cJ9_abs_0f7a4 9 = .ok (.iload_n 0, 1) := by decide +kernel
theorem dJ9_abs_0f7a4_10 : decode cJ9_abs_0f7a4 10 = .ok (.ireturn, 1) := by decide +kernel
theorem dJ9_max_7cf53_0 : decode cJ9_max_7cf53 0 = .ok (.iload_n 0, 1) := by decide +kernel
theorem dJ9_max_7cf53_1 : decode cJ9_max_7cf53 1 = .ok (.iload_n 1, 1) := by decide +kernel
theorem dJ9_max_7cf53_2 : decode cJ9_max_7cf53 2 = .ok (.if_icmp .lt 7, 3) := by decide +kernel
theorem dJ9_max_7cf53_5 : decode cJ9_max_7cf53 5 = .ok (.iload_n 0, 1) := by decide +kernel
theorem dJ9_max_7cf53_6 : decode cJ9_max_7cf53 6 = .ok (.goto 4, 3) := by decide +kernel
theorem dJ9_max_7cf53_9 : decode cJ9_max_7cf53 9 = .ok (.iload_n 1, 1) := by decide +kernel
theorem dJ9_max_7cf53_10 : decode cJ9_max_7cf53 10 = .ok (.ireturn, 1) := by decide +kernel
theorem dJ9_min_7cf53_0 : decode cJ9_min_7cf53 0 = .ok (.iload_n 0, 1) := by decide +kernel
theorem dJ9_min_7cf53_1 : decode cJ9_min_7cf53 1 = .ok (.iload_n 1, 1) := by decide +kernel
theorem dJ9_min_7cf53_2 : decode cJ9_min_7cf53 2 = .ok (.if_icmp .gt 7, 3) := by decide +kernel
theorem dJ9_min_7cf53_5 : decode cJ9_min_7cf53 5 = .ok (.iload_n 0, 1) := by decide +kernel
theorem dJ9_min_7cf53_6 : decode cJ9_min_7cf53 6 = .ok (.goto 4, 3) := by decide +kernel
theorem dJ9_min_7cf53_9 : decode cJ9_min_7cf53 9 = .ok (.iload_n 1, 1) := by decide +kernel
theorem dJ9_min_7cf53_10 : decode cJ9_min_7cf53 10 = .ok (.ireturn, 1) := by decide +kernel
end
section
/-! The layer between the kit's rows and the walks that a program lays: links of nest mates, contracts that only read, contracts that write their own cells, call rules. -/
def nst (U : State) : Prop :=
  va_Nw (.methodLinkNest RX6 31 yX3_init RX6) U ∧ va_Nw (.methodLinkNest RX6 40 yX5_init RX6) U ∧ va_Nw (.methodLinkNest RX5 17 yX6_within RX6) U ∧ va_Nw (.methodLinkNest RX5 27 yX6_partOfTurn RX6) U ∧ va_Nw (.methodLinkNest RX1 23 yX6_partOfTurn RX6) U ∧ va_Nw (.methodLinkNest RX2 22 yX6_within RX6) U ∧ va_Nw (.methodLinkNest RX2 46 yX6_commonDivisor RX6) U ∧ va_Nw (.methodLinkNest RX3 20 yX6_within RX6) U ∧ va_Nw (.methodLinkNest RX0 11 yX6_within RX6) U
theorem nst.warm {s U : State} (hW : s.WarmedH U.vm) (h : nst s) : nst U :=
  ⟨va_Nw.warmM hW h.1, va_Nw.warmM hW h.2.1, va_Nw.warmM hW h.2.2.1, va_Nw.warmM hW h.2.2.2.1, va_Nw.warmM hW h.2.2.2.2.1, va_Nw.warmM hW h.2.2.2.2.2.1, va_Nw.warmM hW h.2.2.2.2.2.2.1, va_Nw.warmM hW h.2.2.2.2.2.2.2.1, va_Nw.warmM hW h.2.2.2.2.2.2.2.2⟩
theorem nst.call {U : State} {g : JFrame} {mk : MethodId} {a : Array Value} (h : nst U) : nst (U.calling g mk a) :=
  ⟨va_Nw.same rfl rfl h.1, va_Nw.same rfl rfl h.2.1, va_Nw.same rfl rfl h.2.2.1, va_Nw.same rfl rfl h.2.2.2.1, va_Nw.same rfl rfl h.2.2.2.2.1, va_Nw.same rfl rfl h.2.2.2.2.2.1, va_Nw.same rfl rfl h.2.2.2.2.2.2.1, va_Nw.same rfl rfl h.2.2.2.2.2.2.2.1, va_Nw.same rfl rfl h.2.2.2.2.2.2.2.2⟩
/-- what every method knows of the tables: the classes, the array classes, the nest -/
def kI (D : va_G) (tys : List (ClassId × FieldType)) (U : State) : Prop := va_K D vwCl tys U ∧ nst U
theorem kI.warm {D : va_G} {tys : List (ClassId × FieldType)} {s U : State} (hW : s.WarmedH U.vm) (h : kI D tys s) : kI D tys U := ⟨va_K.moved hW.alike h.1, h.2.warm hW⟩
theorem kI.call {D : va_G} {tys : List (ClassId × FieldType)} {U : State} {g : JFrame} {mk : MethodId} {a : Array Value} (h : kI D tys U) : kI D tys (U.calling g mk a) := ⟨va_K.moved (u := U) (U := U.calling g mk a) (Vm.Alike.refl U.vm) h.1, h.2.call⟩
theorem kI.sub {D : va_G} {tys tys' : List (ClassId × FieldType)} {U : State} (h : kI D tys U) (is : List Nat) (hs : is.filterMap (fun i => tys[i]?) = tys') : kI D tys' U := ⟨h.1.sub is hs, h.2⟩
/-- a method that only reads the cells ws -/
def roP (D : va_G) (tys : List (ClassId × FieldType)) (ws : va_W) : State → Prop := fun U => va_P D vwCl ws U.heap ∧ kI D tys U
theorem ro_fb {As : List Value} {D : va_G} {tys : List (ClassId × FieldType)} {ws : va_W} : FrameBlind (va_Pc As (roP D tys ws)) := fun _ _ _ _ h => ⟨h.1, h.2.1, h.2.2.call⟩
theorem ro_pre {As : List Value} {D : va_G} {tys : List (ClassId × FieldType)} {ws : va_W} {s : State} {H : Heap} (hP : va_P D vwCl ws H) (hK : kI D tys s) : PreS s H (va_Pc As (roP D tys ws)) As :=
  ⟨ro_fb, fun U hU hW => ⟨rfl, by rw [hU]; exact hP, hK.warm hW⟩⟩
theorem ro_preV {As : List Value} {D : va_G} {tys : List (ClassId × FieldType)} {ws : va_W} {s : State} {H : Heap} {b q0 ci : Nat} {q : vw_C} {fs : List Value} (hP : va_P D vwCl ws H) (hK : kI D tys s) (hc : vwCl[ci]? = some q) (he : ws[q0]? = some (b, .inr (ci, fs))) : PreV s H q.1 b (va_Pc (.ref b :: As) (roP D tys ws)) As :=
  ⟨ro_fb, va_recv hK.1 hP hc he, fun U hU hW => ⟨rfl, by rw [hU]; exact hP, hK.warm hW⟩⟩
/-- a method that writes the cells ws, and no others -/
def wrP (D : va_G) (tys : List (ClassId × FieldType)) (ws : va_W) (sz : Nat) : State → Prop := fun U => U.heap.size = sz ∧ va_P D vwCl ws U.heap ∧ kI D tys U ∧ va_D (fun _ => True) ws
theorem wr_fb {As : List Value} {D : va_G} {tys : List (ClassId × FieldType)} {ws : va_W} {sz : Nat} : FrameBlind (va_Pc As (wrP D tys ws sz)) := fun _ _ _ _ h => ⟨h.1, h.2.1, h.2.2.1, h.2.2.2.1.call, h.2.2.2.2⟩
theorem wr_preV {As : List Value} {D : va_G} {tys : List (ClassId × FieldType)} {ws : va_W} {A : Nat → Prop} {s : State} {H : Heap} {b q0 ci : Nat} {q : vw_C} {fs : List Value} (hP : va_P D vwCl ws H) (hD : va_D A ws) (hK : kI D tys s) (hc : vwCl[ci]? = some q) (he : ws[q0]? = some (b, .inr (ci, fs))) : PreV s H q.1 b (va_Pc (.ref b :: As) (wrP D tys ws H.size)) As :=
  ⟨wr_fb, va_recv hK.1 hP hc he, fun U hU hW => ⟨rfl, by rw [hU], by rw [hU]; exact hP, hK.warm hW, hD.weaken (fun _ _ _ _ => trivial)⟩⟩
theorem wr_pre {As : List Value} {D : va_G} {tys : List (ClassId × FieldType)} {ws : va_W} {A : Nat → Prop} {s : State} {H : Heap} (hP : va_P D vwCl ws H) (hD : va_D A ws) (hK : kI D tys s) : PreS s H (va_Pc As (wrP D tys ws H.size)) As :=
  ⟨wr_fb, fun U hU hW => ⟨rfl, by rw [hU], by rw [hU]; exact hP, hK.warm hW, hD.weaken (fun _ _ _ _ => trivial)⟩⟩
/-- cells of a world put at their places -/
def setAll : va_W → List Nat → va_W → va_W
  | ws, p :: ps, x :: es => setAll (ws.set p x) ps es
  | ws, _, _ => ws
theorem setAll_at : ∀ (ps : List Nat) (es ws : va_W) (k : Nat) (q : Nat × va_E), (setAll ws ps es)[k]? = some q → (∃ i : Nat, es[i]? = some q ∧ ps[i]? = some k) ∨ ((∀ i : Nat, i < es.length → ps[i]? ≠ some k) ∧ ws[k]? = some q)
  | [], es, ws, k, q, h => by
    have h : ws[k]? = some q := by cases es <;> exact h
    exact Or.inr ⟨fun i _ => by simp, h⟩
  | p :: ps, [], ws, k, q, h => Or.inr ⟨fun i hi => absurd hi (Nat.not_lt_zero i), h⟩
  | p :: ps, x :: es, ws, k, q, h => by
    have h : (setAll (ws.set p x) ps es)[k]? = some q := h
    rcases setAll_at ps es (ws.set p x) k q h with ⟨i, h1, h2⟩ | ⟨h1, h2⟩
    · exact Or.inl ⟨i + 1, h1, h2⟩
    · by_cases hk : k = p
      · subst hk
        have hl : k < (ws.set k x).length := (List.getElem?_eq_some_iff.mp h2).1
        rw [List.length_set] at hl
        rw [List.getElem?_set_self hl] at h2
        exact Or.inl ⟨0, h2, rfl⟩
      · rw [List.getElem?_set_ne (Ne.symm hk)] at h2
        refine Or.inr ⟨fun i hi => ?_, h2⟩
        cases i with
        | zero => intro z; exact hk (Option.some.inj z).symm
        | succ i => exact h1 i (Nat.lt_of_succ_lt_succ hi)
/-- behind a call of a method that writes the cells at the places ps -/
theorem wr_join {A0 : Nat → Prop} {D : va_G} {cl : List vw_C} {ws wc w1 : va_W} {H H1 : Heap} (hP : va_P D cl ws H) (hD : va_D A0 ws) (ps : List Nat) (hC : ps.map (fun i => ws[i]?) = wc.map some) (hadr : w1.map Prod.fst = wc.map Prod.fst)
    (hk : ∀ q : Nat, q < H.size → ¬ va_A wc H.size q → H1[q]? = H[q]?) (hP1 : va_P D cl w1 H1) : va_P D cl (setAll ws ps w1) H1 ∧ va_D A0 (setAll ws ps w1) := by
  have hlen : w1.length = wc.length := by rw [← List.length_map (f := Prod.fst), hadr, List.length_map]
  have hlp : ps.length = wc.length := by rw [← List.length_map (f := fun i => ws[i]?), hC, List.length_map]
  have at' : ∀ (i k : Nat), ps[i]? = some k → ∃ q, wc[i]? = some q ∧ ws[k]? = some q := by
    intro i k hi
    have h1 : (ps.map (fun i => ws[i]?))[i]? = some ws[k]? := by rw [List.getElem?_map, hi]; rfl
    rw [hC, List.getElem?_map] at h1
    cases hw : wc[i]? with
    | none => rw [hw] at h1; cases h1
    | some q => rw [hw] at h1; exact ⟨q, rfl, (Option.some.inj h1).symm⟩
  have adr : ∀ (i : Nat) (x y : Nat × va_E), w1[i]? = some x → wc[i]? = some y → x.1 = y.1 := by
    intro i x y hx hy
    have h1 : (w1.map Prod.fst)[i]? = some x.1 := by rw [List.getElem?_map, hx]; rfl
    rw [hadr, List.getElem?_map, hy] at h1
    exact (Option.some.inj h1).symm
  have old : ∀ (k : Nat) (q : Nat × va_E), (setAll ws ps w1)[k]? = some q → ∃ q0, ws[k]? = some q0 ∧ q0.1 = q.1 := by
    intro k q h
    rcases setAll_at ps w1 ws k q h with ⟨i, h1, h2⟩ | ⟨-, h2⟩
    · obtain ⟨y, hy, hwk⟩ := at' i k h2
      exact ⟨y, hwk, (adr i q y h1 hy).symm⟩
    · exact ⟨q, h2, rfl⟩
  refine ⟨fun k q h => ?_, ⟨fun i j x y hi hj hxy => ?_, fun k q h => ?_⟩⟩
  · rcases setAll_at ps w1 ws k q h with ⟨i, h1, h2⟩ | ⟨h1, h2⟩
    · exact hP1 i q h1
    · refine (hP k q h2).kept (hk q.1 (hP k q h2).lt (fun hA => ?_))
      rcases hA with ⟨i, e, hi⟩ | hi
      · have hil : i < wc.length := (List.getElem?_eq_some_iff.mp hi).1
        obtain ⟨k2, hk2⟩ : ∃ k2, ps[i]? = some k2 := ⟨ps[i]'(by omega), List.getElem?_eq_getElem (by omega)⟩
        obtain ⟨y, hy, hwk⟩ := at' i k2 hk2
        rw [hi] at hy
        cases hy
        have := hD.1 k k2 q (q.1, e) h2 hwk rfl
        subst this
        exact h1 i (by omega) hk2
      · exact absurd (hP k q h2).lt (by omega)
  · obtain ⟨x0, h1, h2⟩ := old i x hi
    obtain ⟨y0, h3, h4⟩ := old j y hj
    exact hD.1 i j x0 y0 h1 h3 (h2.trans (hxy.trans h4.symm))
  · obtain ⟨q0, h1, h2⟩ := old k q h
    rw [← h2]
    exact hD.2 k q0 h1
section CR
variable {p : Program} {l : Launch} {e : Env} {R : Room} {s : State} {m : MethodId} {args : Array Value} {below : List Frame} {meth : Method} {c : Code} {H : Heap} {locs : List Loc} {cells slots : Nat} {Q : State → Prop}
variable {pc : Nat} {ls : Array Slot} {rest st0 : List Value} {a : Array Value} {A0 : Nat → Prop} {H0 : Heap} {D : va_G} {ws wc w1 : va_W} {cc : ByteArray}
theorem w_Q {g : JFrame} (k : ∀ Q' : State → Prop, Q = Q' → W p l e R s m args below meth c H locs cells slots Q' g) : W p l e R s m args below meth c H locs cells slots Q g := k Q rfl
theorem cs_i {v : Int32} (hr : va_Run p l e R s m args below meth c H locs cells slots 0 0 (F0 m pc ls st0) rest (vp_Si (fun r => r = v) a) (fun _ => False))
    (kk : W p l e R s m args below meth c H locs cells slots Q (F0 m (pc + 3) ls (.int v :: rest))) : W p l e R s m args below meth c H locs cells slots Q (F0 m pc ls st0) := by
  intro T hT X
  obtain ⟨v, st₀, t, T', L, h0, X', hL, e1, e2, ⟨r, hv, hp, hh⟩, st⟩ := hr T hT X
  cases hv
  cases hp
  obtain ⟨t2, a1, b1⟩ := kk T' (by rw [e1, hh, h0]) (Stand.forget X' (fun q h => (hL q h).elim))
  exact ⟨t2, st t2 a1, b1⟩
theorem cs_l {v : Int64} (hr : va_Run p l e R s m args below meth c H locs cells slots 0 0 (F0 m pc ls st0) rest (vp_Sl (fun r => r = v) a) (fun _ => False))
    (kk : W p l e R s m args below meth c H locs cells slots Q (F0 m (pc + 3) ls (.long v :: rest))) : W p l e R s m args below meth c H locs cells slots Q (F0 m pc ls st0) := by
  intro T hT X
  obtain ⟨v, st₀, t, T', L, h0, X', hL, e1, e2, ⟨r, hv, hp, hh⟩, st⟩ := hr T hT X
  cases hv
  cases hp
  obtain ⟨t2, a1, b1⟩ := kk T' (by rw [e1, hh, h0]) (Stand.forget X' (fun q h => (hL q h).elim))
  exact ⟨t2, st t2 a1, b1⟩
theorem cw_i {v : Int32} (hr : va_Run p l e R s m args below meth c H locs cells slots 0 0 (F0 m pc ls st0) rest (va_Qi (fun r (_ : Unit) => r = v) (fun _ t => va_P D vwCl w1 t.heap) (va_A wc H.size) a) (va_A wc H.size))
    (hP : va_P D vwCl ws H) (hD : va_D A0 ws) (hS : va_S A0 H0 H locs) (hA : ∀ q, H0.size ≤ q → A0 q) (ps : List Nat) (hC : ps.map (fun i => ws[i]?) = wc.map some) (hadr : w1.map Prod.fst = wc.map Prod.fst)
    (kk : ∀ (H1 : Heap) (locs1 : List Loc), va_P D vwCl (setAll ws ps w1) H1 → va_D A0 (setAll ws ps w1) → va_S A0 H0 H1 locs1 → W p l e R s m args below meth c H1 locs1 cells slots Q (F0 m (pc + 3) ls (.int v :: rest))) : W p l e R s m args below meth c H locs cells slots Q (F0 m pc ls st0) := by
  have hF := va_free (wc := wc) hD hS hA ps hC
  refine va_calli hr hS (fun q _ h => hF q h) hF (fun r u t H1 locs1 ht hvm hw hB hz hk hS1 => ?_)
  cases hw
  rw [ht] at hB
  obtain ⟨h1, h2⟩ := wr_join hP hD ps hC hadr hk hB
  exact kk H1 locs1 h1 h2 hS1
theorem cw_v (hr : va_Run p l e R s m args below meth c H locs cells slots 0 0 (F0 m pc ls st0) rest (va_Qv (fun (_ : Unit) => True) (fun _ t => va_P D vwCl w1 t.heap) (va_A wc H.size) a) (va_A wc H.size))
    (hP : va_P D vwCl ws H) (hD : va_D A0 ws) (hS : va_S A0 H0 H locs) (hA : ∀ q, H0.size ≤ q → A0 q) (ps : List Nat) (hC : ps.map (fun i => ws[i]?) = wc.map some) (hadr : w1.map Prod.fst = wc.map Prod.fst)
    (kk : ∀ (H1 : Heap) (locs1 : List Loc), va_P D vwCl (setAll ws ps w1) H1 → va_D A0 (setAll ws ps w1) → va_S A0 H0 H1 locs1 → W p l e R s m args below meth c H1 locs1 cells slots Q (F0 m (pc + 3) ls rest)) : W p l e R s m args below meth c H locs cells slots Q (F0 m pc ls st0) := by
  have hF := va_free (wc := wc) hD hS hA ps hC
  refine va_callv hr hS (fun q _ h => hF q h) hF (fun u t H1 locs1 ht hvm hw hB hz hk hS1 => ?_)
  rw [ht] at hB
  obtain ⟨h1, h2⟩ := wr_join hP hD ps hC hadr hk hB
  exact kk H1 locs1 h1 h2 hS1
theorem cw_l {v : Int64} (hr : va_Run p l e R s m args below meth c H locs cells slots 0 0 (F0 m pc ls st0) rest (va_Ql (fun r (_ : Unit) => r = v) (fun _ t => va_P D vwCl w1 t.heap) (va_A wc H.size) a) (va_A wc H.size))
    (hP : va_P D vwCl ws H) (hD : va_D A0 ws) (hS : va_S A0 H0 H locs) (hA : ∀ q, H0.size ≤ q → A0 q) (ps : List Nat) (hC : ps.map (fun i => ws[i]?) = wc.map some) (hadr : w1.map Prod.fst = wc.map Prod.fst)
    (kk : ∀ (H1 : Heap) (locs1 : List Loc), va_P D vwCl (setAll ws ps w1) H1 → va_D A0 (setAll ws ps w1) → va_S A0 H0 H1 locs1 → W p l e R s m args below meth c H1 locs1 cells slots Q (F0 m (pc + 3) ls (.long v :: rest))) : W p l e R s m args below meth c H locs cells slots Q (F0 m pc ls st0) := by
  have hF := va_free (wc := wc) hD hS hA ps hC
  refine va_calll hr hS (fun q _ h => hF q h) hF (fun r u t H1 locs1 ht hvm hw hB hz hk hS1 => ?_)
  cases hw
  rw [ht] at hB
  obtain ⟨h1, h2⟩ := wr_join hP hD ps hC hadr hk hB
  exact kk H1 locs1 h1 h2 hS1
/-- an int of an array at a place that is a number -/
theorem w_ald {tys : List (ClassId × FieldType)} {b : Nat} (hx : p.tables.exec = Jvm.exec) (hb : c.code = cc) (hK : kI D tys s) (hP : va_P D vwCl ws H) (q0 t0 : Nat) {cA : ClassId} {n : Nat} {f : Nat → Int32} (ha : ws[q0]? = some (b, .inl (cA, n, .inl f))) (ht : tys[t0]? = some (cA, .int)) {i : Int32} (j : Nat) (hi : i = nI j) (hj : j < n) (hn : n < 2 ^ 31) (hdg : decode cc pc = .ok (.iaload, 1))
    (kk : W p l e R s m args below meth c H locs cells slots Q (F0 m (pc + 1) ls (.int (f j) :: rest))) : W p l e R s m args below meth c H locs cells slots Q (F0 m pc ls (.int i :: .ref b :: rest)) := by
  subst hi
  refine va_iald hx hb hK.1 hP q0 t0 ha ht (vp_in_nI hj hn) hdg ?_
  rw [nI_clamp (Nat.lt_trans hj hn)]
  exact kk
theorem w_ast {tys : List (ClassId × FieldType)} {b : Nat} (hx : p.tables.exec = Jvm.exec) (hb : c.code = cc) (hK : kI D tys s) (hP : va_P D vwCl ws H) (hD : va_D A0 ws) (hS : va_S A0 H0 H locs) (q0 t0 : Nat) {cA : ClassId} {n : Nat} {f : Nat → Int32} (ha : ws[q0]? = some (b, .inl (cA, n, .inl f))) (ht : tys[t0]? = some (cA, .int)) {i x : Int32} (j : Nat) (hi : i = nI j) (hj : j < n) (hn : n < 2 ^ 31) (hdg : decode cc pc = .ok (.iastore, 1))
    (kk : ∀ (H1 : Heap) (locs1 : List Loc), va_P D vwCl (ws.set q0 (b, .inl (cA, n, .inl (upd f j x)))) H1 → va_D A0 (ws.set q0 (b, .inl (cA, n, .inl (upd f j x)))) → va_S A0 H0 H1 locs1 → W p l e R s m args below meth c H1 locs1 cells slots Q (F0 m (pc + 1) ls rest)) : W p l e R s m args below meth c H locs cells slots Q (F0 m pc ls (.int x :: .int i :: .ref b :: rest)) := by
  subst hi
  refine va_iast hx hb hK.1 hP hD hS q0 t0 ha ht (vp_in_nI hj hn) hdg ?_
  rw [nI_clamp (Nat.lt_trans hj hn)]
  exact kk
end CR
end
section
theorem nb_of {v : Int32} (h : v = 0 ∨ v = 1) : narrow .boolean (.int v) = .int v := by
  rcases h with h | h <;> subst h <;> rfl
def updN (f : Nat → Nat) (k x : Nat) : Nat → Nat := fun j => if j = k then x else f j
theorem updN_row (f : Nat → Nat) (k x : Nat) : upd (fun i => nI (f i)) k (nI x) = fun i => nI (updN f k x i) := by
  funext j
  unfold upd updN
  split <;> rfl
def fX6_within (v : Int32) (lo : Int32) (hi : Int32) : Int32 := (if v < lo then 0 else (if hi < v then 0 else 1))
abbrev rmX6_within : Room := { frames := 0, cells := 0, slots := 0, locals := 0 }
set_option maxHeartbeats 4000000 in
set_option maxRecDepth 100000 in
theorem c_X6_within (l : Launch) (D : va_G) (cI : ClassId) (v : Int32) (lo : Int32) (hi : Int32)  : Met l yX6_within wsX6_within rmX6_within (va_Pc [.int v, .int lo, .int hi] (roP D [(cI, .int)] [])) (vp_Si (fun r9 => r9 = fX6_within v lo hi)) 0 0 (fun _ => False) := by
  generalize hF : fX6_within v lo hi = T
  refine Met.ofW (cc := cX6_within) (maxL := 3) (ret := (some .boolean)) (by decide) rfl ?_
  intro p e s m args below meth c s₁ B hml hv
  obtain ⟨rfl, hP, hK⟩ := hv
  have hx := B.exec
  have hb := B.bytes
  have hr := B.returns
  have hts := atoms_spec (ws := wsX6_within) B.pre
  have hown : s.vm.findClass RX6 = some m.cls := findClass_of_methodNamed B.named
  have hlocks := B.notSynchronized
  have hl := lv_entry ([.int v, .int lo, .int hi]) (n := 3) (Nat.le_of_ble_eq_true rfl)
  rw [lg_entry_eq]
  generalize (lg_sl ([.int v, .int lo, .int hi]) ++ List.replicate (3 - (lg_sl ([.int v, .int lo, .int hi])).length) Slot.unset).toArray = ls at hl ⊢
  refine w_Q (fun Q hQ => ?_)
  have hl : lv_has ls 3 [(0, .int v), (1, .int lo), (2, .int hi)] := hl
  rw [fX6_within] at hF
  refine lv_iload_n hx hb dX6_within_0 rfl (lv_at hl 0 rfl) ?_
  refine lv_iload_n hx hb dX6_within_1 rfl (lv_at hl 1 rfl) ?_
  refine lv_icmp_lt (tgt := 14) hx hb dX6_within_2 (by decide) (fun c2 => ?_) (fun c2 => ?_)
  · rw [if_pos c2] at hF
    refine lv_iconst (v := 0) hx hb dX6_within_14 (by decide) ?_
    subst hQ
    exact W.zret (v := 0) (ty := .boolean) hx hb hr rfl (fun u9 ht hW => ⟨_, rfl, hF, ht⟩) (fun q hq => by cases hq) dX6_within_15
  · rw [if_neg c2] at hF
    refine lv_iload_n hx hb dX6_within_5 rfl (lv_at hl 0 rfl) ?_
    refine lv_iload_n hx hb dX6_within_6 rfl (lv_at hl 2 rfl) ?_
    refine lv_icmp_gt (tgt := 14) hx hb dX6_within_7 (by decide) (fun c7 => ?_) (fun c7 => ?_)
    · rw [if_pos c7] at hF
      refine lv_iconst (v := 0) hx hb dX6_within_14 (by decide) ?_
      subst hQ
      exact W.zret (v := 0) (ty := .boolean) hx hb hr rfl (fun u9 ht hW => ⟨_, rfl, hF, ht⟩) (fun q hq => by cases hq) dX6_within_15
    · rw [if_neg c7] at hF
      refine lv_iconst (v := 1) hx hb dX6_within_10 (by decide) ?_
      refine lv_goto (tgt := 15) hx hb dX6_within_11 (by decide) ?_
      subst hQ
      exact W.zret (v := 1) (ty := .boolean) hx hb hr rfl (fun u9 ht hW => ⟨_, rfl, hF, ht⟩) (fun q hq => by cases hq) dX6_within_15
theorem bX6_within (v : Int32) (lo : Int32) (hi : Int32) : fX6_within v lo hi = 0 ∨ fX6_within v lo hi = 1 := by
  unfold fX6_within
  repeat' split
  all_goals first | exact Or.inl rfl | exact Or.inr rfl
def fX6_isSign (v : Int32) : Int32 := fX6_within v 0 5
abbrev rmX6_isSign : Room := { frames := 1, cells := 0, slots := 0, locals := 22 }
set_option maxHeartbeats 4000000 in
set_option maxRecDepth 100000 in
theorem c_X6_isSign (l : Launch) (D : va_G) (cI : ClassId) (v : Int32)  : Met l yX6_isSign wsX6_isSign rmX6_isSign (va_Pc [.int v] (roP D [(cI, .int)] [])) (vp_Si (fun r9 => r9 = fX6_isSign v)) 0 0 (fun _ => False) := by
  generalize hF : fX6_isSign v = T
  refine Met.ofW (cc := cX6_isSign) (maxL := 1) (ret := (some .boolean)) (by decide) rfl ?_
  intro p e s m args below meth c s₁ B hml hv
  obtain ⟨rfl, hP, hK⟩ := hv
  have hx := B.exec
  have hb := B.bytes
  have hr := B.returns
  have hts := atoms_spec (ws := wsX6_isSign) B.pre
  have hown : s.vm.findClass RX6 = some m.cls := findClass_of_methodNamed B.named
  have hlocks := B.notSynchronized
  have hl := lv_entry ([.int v]) (n := 1) (Nat.le_of_ble_eq_true rfl)
  rw [lg_entry_eq]
  generalize (lg_sl ([.int v]) ++ List.replicate (1 - (lg_sl ([.int v])).length) Slot.unset).toArray = ls at hl ⊢
  refine w_Q (fun Q hQ => ?_)
  have hl : lv_has ls 1 [(0, .int v)] := hl
  rw [fX6_isSign] at hF
  refine lv_iload_n hx hb dX6_isSign_0 rfl (lv_at hl 0 rfl) ?_
  refine lv_iconst (v := 0) hx hb dX6_isSign_1 (by decide) ?_
  refine lv_iconst (v := 5) hx hb dX6_isSign_2 (by decide) ?_
  refine cs_i (va_runS (As := [.int v, .int 0, .int 5]) (rest := []) ⟨hx, hb, hml, hown, hts⟩ (c_X6_within l D cI v 0 5 ) (va_cwS 3 hts gX6_isSign_X6_within rfl rfl rfl (by decide +kernel) ⟨(Nat.le_of_ble_eq_true rfl), (Nat.le_of_ble_eq_true rfl)⟩) (ro_pre hP hK) rfl rfl hl.1 rfl (lv_room (Nat.le_of_ble_eq_true rfl)) dX6_isSign_3 ⟨Nat.zero_le _, Nat.zero_le _⟩) ?_
  subst hQ
  exact W.zret (v := fX6_within v 0 5) (ty := .boolean) hx hb hr (nb_of (bX6_within ..)) (fun u9 ht hW => ⟨_, rfl, hF, ht⟩) (fun q hq => by cases hq) dX6_isSign_6
theorem bX6_isSign (v : Int32) : fX6_isSign v = 0 ∨ fX6_isSign v = 1 := bX6_within ..
def fX6_isPart (v : Int32) : Int32 := fX6_within v 0 1
abbrev rmX6_isPart : Room := { frames := 1, cells := 0, slots := 0, locals := 22 }
set_option maxHeartbeats 4000000 in
set_option maxRecDepth 100000 in
theorem c_X6_isPart (l : Launch) (D : va_G) (cI : ClassId) (v : Int32)  : Met l yX6_isPart wsX6_isPart rmX6_isPart (va_Pc [.int v] (roP D [(cI, .int)] [])) (vp_Si (fun r9 => r9 = fX6_isPart v)) 0 0 (fun _ => False) := by
  generalize hF : fX6_isPart v = T
  refine Met.ofW (cc := cX6_isPart) (maxL := 1) (ret := (some .boolean)) (by decide) rfl ?_
  intro p e s m args below meth c s₁ B hml hv
  obtain ⟨rfl, hP, hK⟩ := hv
  have hx := B.exec
  have hb := B.bytes
  have hr := B.returns
  have hts := atoms_spec (ws := wsX6_isPart) B.pre
  have hown : s.vm.findClass RX6 = some m.cls := findClass_of_methodNamed B.named
  have hlocks := B.notSynchronized
  have hl := lv_entry ([.int v]) (n := 1) (Nat.le_of_ble_eq_true rfl)
  rw [lg_entry_eq]
  generalize (lg_sl ([.int v]) ++ List.replicate (1 - (lg_sl ([.int v])).length) Slot.unset).toArray = ls at hl ⊢
  refine w_Q (fun Q hQ => ?_)
  have hl : lv_has ls 1 [(0, .int v)] := hl
  rw [fX6_isPart] at hF
  refine lv_iload_n hx hb dX6_isPart_0 rfl (lv_at hl 0 rfl) ?_
  refine lv_iconst (v := 0) hx hb dX6_isPart_1 (by decide) ?_
  refine lv_iconst (v := 1) hx hb dX6_isPart_2 (by decide) ?_
  refine cs_i (va_runS (As := [.int v, .int 0, .int 1]) (rest := []) ⟨hx, hb, hml, hown, hts⟩ (c_X6_within l D cI v 0 1 ) (va_cwS 3 hts gX6_isPart_X6_within rfl rfl rfl (by decide +kernel) ⟨(Nat.le_of_ble_eq_true rfl), (Nat.le_of_ble_eq_true rfl)⟩) (ro_pre hP hK) rfl rfl hl.1 rfl (lv_room (Nat.le_of_ble_eq_true rfl)) dX6_isPart_3 ⟨Nat.zero_le _, Nat.zero_le _⟩) ?_
  subst hQ
  exact W.zret (v := fX6_within v 0 1) (ty := .boolean) hx hb hr (nb_of (bX6_within ..)) (fun u9 ht hW => ⟨_, rfl, hF, ht⟩) (fun q hq => by cases hq) dX6_isPart_6
theorem bX6_isPart (v : Int32) : fX6_isPart v = 0 ∨ fX6_isPart v = 1 := bX6_within ..
def fX6_partOfTurn (q : Int32) (pt : Int32) : Int32 := (if ((q - pt) &&& 3) = 0 then 1 else (if ((q - pt) &&& 3) = 2 then (-1) else 0))
abbrev rmX6_partOfTurn : Room := { frames := 0, cells := 0, slots := 0, locals := 0 }
set_option maxHeartbeats 4000000 in
set_option maxRecDepth 100000 in
theorem c_X6_partOfTurn (l : Launch) (D : va_G) (cI : ClassId) (q : Int32) (pt : Int32)  : Met l yX6_partOfTurn wsX6_partOfTurn rmX6_partOfTurn (va_Pc [.int q, .int pt] (roP D [(cI, .int)] [])) (vp_Si (fun r9 => r9 = fX6_partOfTurn q pt)) 0 0 (fun _ => False) := by
  generalize hF : fX6_partOfTurn q pt = T
  refine Met.ofW (cc := cX6_partOfTurn) (maxL := 3) (ret := (some .int)) (by decide) rfl ?_
  intro p e s m args below meth c s₁ B hml hv
  obtain ⟨rfl, hP, hK⟩ := hv
  have hx := B.exec
  have hb := B.bytes
  have hr := B.returns
  have hts := atoms_spec (ws := wsX6_partOfTurn) B.pre
  have hown : s.vm.findClass RX6 = some m.cls := findClass_of_methodNamed B.named
  have hlocks := B.notSynchronized
  have hl := lv_entry ([.int q, .int pt]) (n := 3) (Nat.le_of_ble_eq_true rfl)
  rw [lg_entry_eq]
  generalize (lg_sl ([.int q, .int pt]) ++ List.replicate (3 - (lg_sl ([.int q, .int pt])).length) Slot.unset).toArray = ls at hl ⊢
  refine w_Q (fun Q hQ => ?_)
  have hl : lv_has ls 3 [(0, .int q), (1, .int pt)] := hl
  rw [fX6_partOfTurn] at hF
  refine lv_iload_n hx hb dX6_partOfTurn_0 rfl (lv_at hl 0 rfl) ?_
  refine lv_iload_n hx hb dX6_partOfTurn_1 rfl (lv_at hl 1 rfl) ?_
  refine lv_isub hx hb dX6_partOfTurn_2 ?_
  refine lv_iconst (v := 3) hx hb dX6_partOfTurn_3 (by decide) ?_
  refine lv_iand hx hb dX6_partOfTurn_4 ?_
  refine lv_istore_n (lv' := [(2, .int ((q - pt) &&& 3)), (0, .int q), (1, .int pt)]) hx hb dX6_partOfTurn_5 rfl hl (by decide) rfl (fun ls hl => ?_)
  refine lv_iload_n hx hb dX6_partOfTurn_6 rfl (lv_at hl 0 rfl) ?_
  refine lv_if_ne (tgt := 12) hx hb dX6_partOfTurn_7 (by decide) (fun c7 => ?_) (fun c7 => ?_)
  · rw [if_neg c7] at hF
    refine lv_iload_n hx hb dX6_partOfTurn_12 rfl (lv_at hl 0 rfl) ?_
    refine lv_iconst (v := 2) hx hb dX6_partOfTurn_13 (by decide) ?_
    refine lv_icmp_ne (tgt := 21) hx hb dX6_partOfTurn_14 (by decide) (fun c14 => ?_) (fun c14 => ?_)
    · rw [if_neg c14] at hF
      refine lv_iconst (v := 0) hx hb dX6_partOfTurn_21 (by decide) ?_
      subst hQ
      exact W.iret (v := 0) hx hb hr (fun u9 ht hW => ⟨_, rfl, hF, ht⟩) (fun q hq => by cases hq) dX6_partOfTurn_22
    · rw [if_pos c14] at hF
      refine lv_iconst (v := (-1)) hx hb dX6_partOfTurn_17 (by decide) ?_
      refine lv_goto (tgt := 22) hx hb dX6_partOfTurn_18 (by decide) ?_
      subst hQ
      exact W.iret (v := (-1)) hx hb hr (fun u9 ht hW => ⟨_, rfl, hF, ht⟩) (fun q hq => by cases hq) dX6_partOfTurn_22
  · rw [if_pos c7] at hF
    refine lv_iconst (v := 1) hx hb dX6_partOfTurn_10 (by decide) ?_
    subst hQ
    exact W.iret (v := 1) hx hb hr (fun u9 ht hW => ⟨_, rfl, hF, ht⟩) (fun q hq => by cases hq) dX6_partOfTurn_11
def fX6_mix (a : Int64) (b : Int64) : Int64 := (31 * a) + b
abbrev rmX6_mix : Room := { frames := 0, cells := 0, slots := 0, locals := 0 }
set_option maxHeartbeats 4000000 in
set_option maxRecDepth 100000 in
theorem c_X6_mix (l : Launch) (D : va_G) (cI : ClassId) (a : Int64) (b : Int64)  : Met l yX6_mix wsX6_mix rmX6_mix (va_Pc [.long a, .long b] (roP D [(cI, .int)] [])) (vp_Sl (fun r9 => r9 = fX6_mix a b)) 0 0 (fun _ => False) := by
  generalize hF : fX6_mix a b = T
  refine Met.ofW (cc := cX6_mix) (maxL := 4) (ret := (some .long)) (by decide) rfl ?_
  intro p e s m args below meth c s₁ B hml hv
  obtain ⟨rfl, hP, hK⟩ := hv
  have hx := B.exec
  have hb := B.bytes
  have hr := B.returns
  have hts := atoms_spec (ws := wsX6_mix) B.pre
  have hown : s.vm.findClass RX6 = some m.cls := findClass_of_methodNamed B.named
  have hlocks := B.notSynchronized
  have hcst203 := hts (.constantLong RX6 203 31) (by decide +kernel)
  have hl := lv_entry ([.long a, .long b]) (n := 4) (Nat.le_of_ble_eq_true rfl)
  rw [lg_entry_eq]
  generalize (lg_sl ([.long a, .long b]) ++ List.replicate (4 - (lg_sl ([.long a, .long b])).length) Slot.unset).toArray = ls at hl ⊢
  refine w_Q (fun Q hQ => ?_)
  have hl : lv_has ls 4 [(0, .long a), (2, .long b)] := hl
  rw [fX6_mix] at hF
  refine lv_ldc2 (v := 31) hx hb hown hcst203 dX6_mix_0 ?_
  refine lv_lload_n hx hb dX6_mix_3 rfl (lv_at hl 0 rfl) ?_
  refine lv_lmul hx hb dX6_mix_4 ?_
  refine lv_lload_n hx hb dX6_mix_5 rfl (lv_at hl 1 rfl) ?_
  refine lv_ladd hx hb dX6_mix_6 ?_
  subst hQ
  exact W.lret (v := (31 * a) + b) hx hb hr (fun u9 ht hW => ⟨_, rfl, hF, ht⟩) (fun q hq => by cases hq) dX6_mix_7
def F_X6_mixAll_6 (tr : Nat → Int32) : Nat → Nat → Int64 → Int64
  | 0, k6, x4 => x4
  | r6 + 1, k6, x4 => F_X6_mixAll_6 tr r6 (k6 + 1) (fX6_mix x4 ((tr k6).toInt64))
def fX6_mixAll (a : Int64) (tr : Nat → Int32) (n : Nat) : Int64 := F_X6_mixAll_6 tr (n - 0) 0 a
abbrev rmX6_mixAll : Room := { frames := 1, cells := 0, slots := 0, locals := 23 }
set_option maxHeartbeats 4000000 in
set_option maxRecDepth 100000 in
theorem c_X6_mixAll (l : Launch) (D : va_G) (cI : ClassId) (a : Int64) (t : Nat) (L : Nat) (tr : Nat → Int32) (n : Nat) (hn : n ≤ L) (hL : L < 2 ^ 20) : Met l yX6_mixAll wsX6_mixAll rmX6_mixAll (va_Pc [.long a, .ref t, .int (nI n)] (roP D [(cI, .int)] [(t, .inl (cI, L, .inl tr))])) (vp_Sl (fun r9 => r9 = fX6_mixAll a tr n)) 0 0 (fun _ => False) := by
  generalize hF : fX6_mixAll a tr n = T
  refine Met.ofW (cc := cX6_mixAll) (maxL := 7) (ret := (some .long)) (by decide) rfl ?_
  intro p e s m args below meth c s₁ B hml hv
  obtain ⟨rfl, hP, hK⟩ := hv
  have hx := B.exec
  have hb := B.bytes
  have hr := B.returns
  have hts := atoms_spec (ws := wsX6_mixAll) B.pre
  have hown : s.vm.findClass RX6 = some m.cls := findClass_of_methodNamed B.named
  have hlocks := B.notSynchronized
  have hl := lv_entry ([.long a, .ref t, .int (nI n)]) (n := 7) (Nat.le_of_ble_eq_true rfl)
  rw [lg_entry_eq]
  generalize (lg_sl ([.long a, .ref t, .int (nI n)]) ++ List.replicate (7 - (lg_sl ([.long a, .ref t, .int (nI n)])).length) Slot.unset).toArray = ls at hl ⊢
  refine w_Q (fun Q hQ => ?_)
  have hl : lv_has ls 7 [(0, .long a), (2, .ref t), (3, .int (nI n))] := hl
  rw [fX6_mixAll] at hF
  refine lv_lload_n hx hb dX6_mixAll_0 rfl (lv_at hl 0 rfl) ?_
  refine lv_lstore (lv' := [(4, .long a), (0, .long a), (2, .ref t), (3, .int (nI n))]) hx hb dX6_mixAll_1 hl (by decide) rfl (fun ls hl => ?_)
  refine lv_iconst (v := 0) hx hb dX6_mixAll_3 (by decide) ?_
  refine lv_istore (lv' := [(6, .int 0), (4, .long a), (0, .long a), (2, .ref t), (3, .int (nI n))]) hx hb dX6_mixAll_4 hl (by decide) rfl (fun ls hl => ?_)
  have lp6 : ∀ (r6 k6 : Nat) (x4 : Int64) (ls : Array Slot), r6 = n - k6 → k6 ≤ n + 1 → lv_has ls 7 [(0, .long a), (2, .ref t), (3, .int (nI n)), (4, .long x4), (6, .int (nI k6))] → F_X6_mixAll_6 tr r6 k6 x4 = T → W p l e (headSpec wsX6_mixAll rmX6_mixAll).room s m ([.long a, .ref t, .int (nI n)] : List Value).toArray below meth c s.heap [] 0 0 Q (F0 m 6 ls []) := by
    intro r6
    induction r6 with
    | zero =>
      intro k6 x4 ls hi6_0 hi6_1 hl hF
      rw [F_X6_mixAll_6] at hF
      refine lv_iload hx hb dX6_mixAll_6 (lv_at hl 4 rfl) ?_
      refine lv_iload_n hx hb dX6_mixAll_8 rfl (lv_at hl 2 rfl) ?_
      refine lv_icmp_ge (tgt := 30) hx hb dX6_mixAll_9 (by decide) (fun c9 => ?_) (fun c9 => ?_)
      · skip
        refine lv_lload hx hb dX6_mixAll_30 (lv_at hl 3 rfl) ?_
        subst hQ
        exact W.lret (v := x4) hx hb hr (fun u9 ht hW => ⟨_, rfl, hF, ht⟩) (fun q hq => by cases hq) dX6_mixAll_32
      · exact False.elim (c9 (nI_le (a := n) (b := k6) (by omega) (by omega)))
    | succ r6 ih6 =>
      intro k6 x4 ls hi6_0 hi6_1 hl hF
      rw [F_X6_mixAll_6] at hF
      refine lv_iload hx hb dX6_mixAll_6 (lv_at hl 4 rfl) ?_
      refine lv_iload_n hx hb dX6_mixAll_8 rfl (lv_at hl 2 rfl) ?_
      refine lv_icmp_ge (tgt := 30) hx hb dX6_mixAll_9 (by decide) (fun c9 => ?_) (fun c9 => ?_)
      · exact False.elim (nI_ge (a := k6) (b := n) (by omega) (by omega) c9)
      · skip
        refine lv_lload hx hb dX6_mixAll_12 (lv_at hl 3 rfl) ?_
        refine lv_aload_n hx hb dX6_mixAll_14 rfl (lv_at hl 1 rfl) ?_
        refine lv_iload hx hb dX6_mixAll_15 (lv_at hl 4 rfl) ?_
        refine w_ald hx hb hK hP 0 0 rfl rfl (k6) rfl (by omega) (by omega) dX6_mixAll_17 ?_
        refine lv_i2l hx hb dX6_mixAll_18 rfl ?_
        have hPc := hP.sub (ws' := []) [] rfl
        refine cs_l (va_runS (As := [.long x4, .long ((tr k6).toInt64)]) (rest := []) ⟨hx, hb, hml, hown, hts⟩ (c_X6_mix l D cI x4 ((tr k6).toInt64) ) (va_cwS 2 hts gX6_mixAll_X6_mix rfl rfl rfl (by decide +kernel) ⟨(Nat.le_of_ble_eq_true rfl), (Nat.le_of_ble_eq_true rfl)⟩) (ro_pre hPc hK) rfl rfl hl.1 rfl (lv_room (Nat.le_of_ble_eq_true rfl)) dX6_mixAll_19 ⟨Nat.zero_le _, Nat.zero_le _⟩) ?_
        refine lv_lstore (lv' := [(4, .long (fX6_mix x4 ((tr k6).toInt64))), (0, .long a), (2, .ref t), (3, .int (nI n)), (6, .int (nI k6))]) hx hb dX6_mixAll_22 hl (by decide) rfl (fun ls hl => ?_)
        refine lv_iinc (v := nI (k6 + 1)) (lv' := [(6, .int (nI (k6 + 1))), (4, .long (fX6_mix x4 ((tr k6).toInt64))), (0, .long a), (2, .ref t), (3, .int (nI n))]) hx hb dX6_mixAll_24 hl (k := 4) rfl (nI_1 _) (by decide) rfl (fun ls hl => ?_)
        refine lv_goto (tgt := 6) hx hb dX6_mixAll_27 (by decide) ?_
        exact ih6 (k6 + 1) (fX6_mix x4 ((tr k6).toInt64)) ls (by omega) (by omega)  (lv_sub hl [2, 3, 4, 1, 0] rfl) hF
  exact lp6 (n - 0) 0 a ls rfl (by omega)  (lv_sub hl [2, 3, 4, 1, 0] rfl) hF
def fX5_has (n : Nat) (i : Int32) : Int32 := fX6_within i 0 ((nI n) - 1)
abbrev rmX5_has : Room := { frames := 1, cells := 0, slots := 0, locals := 22 }
set_option maxHeartbeats 4000000 in
set_option maxRecDepth 100000 in
theorem c_X5_has (l : Launch) (D : va_G) (cI : ClassId) (h : Nat) (t : Nat) (tr : Nat → Int32) (n : Nat) (i : Int32)  : Met l yX5_has wsX5_has rmX5_has (va_Pc [.ref h, .int i] (roP D [(cI, .int)] [(h, .inr (3, [.ref t, .int (nI n)])), (t, .inl (cI, 16, .inl tr))])) (vp_Si (fun r9 => r9 = fX5_has n i)) 0 0 (fun _ => False) := by
  generalize hF : fX5_has n i = T
  refine Met.ofW (cc := cX5_has) (maxL := 2) (ret := (some .boolean)) (by decide) rfl ?_
  intro p e s m args below meth c s₁ B hml hv
  obtain ⟨rfl, hP, hK⟩ := hv
  have hx := B.exec
  have hb := B.bytes
  have hr := B.returns
  have hts := atoms_spec (ws := wsX5_has) B.pre
  have hown : s.vm.findClass RX5 = some m.cls := findClass_of_methodNamed B.named
  have hlocks := B.notSynchronized
  have hinX5 : ∀ w ∈ u_ws RX5 TX5 2, w ∈ wsX5_has := by decide +kernel
  have hf13 := hts (.fieldLink RX5 13 "PulseSigns$Sign" "length" "I") (by decide +kernel)
  have hiniX6 := hts (.initialized RX6) (by decide +kernel)
  have hst_X6_within := hts (.static yX6_within) (by decide +kernel)
  have hl := lv_entry ([.ref h, .int i]) (n := 2) (Nat.le_of_ble_eq_true rfl)
  rw [lg_entry_eq]
  generalize (lg_sl ([.ref h, .int i]) ++ List.replicate (2 - (lg_sl ([.ref h, .int i])).length) Slot.unset).toArray = ls at hl ⊢
  refine w_Q (fun Q hQ => ?_)
  have hl : lv_has ls 2 [(0, .ref h), (1, .int i)] := hl
  rw [fX5_has] at hF
  refine lv_iload_n hx hb dX5_has_0 rfl (lv_at hl 1 rfl) ?_
  refine lv_iconst (v := 0) hx hb dX5_has_1 (by decide) ?_
  refine lv_aload_n hx hb dX5_has_2 rfl (lv_at hl 0 rfl) ?_
  refine va_get (D := D) (ci := 3) (v := .int (nI n)) (C := RX5) (T := TX5) (N := 2) hx hb hts hinX5 hown hK.1 hP 0 rfl rfl 1 (by decide) hf13 (fun _ h9 => h9) rfl dX5_has_3 ?_
  refine lv_iconst (v := 1) hx hb dX5_has_6 (by decide) ?_
  refine lv_isub hx hb dX5_has_7 ?_
  have hPc := hP.sub (ws' := []) [] rfl
  refine cs_i (va_runSN (As := [.int i, .int 0, .int ((nI n) - 1)]) (rest := []) ⟨hx, hb, hml, hown, hts⟩ (c_X6_within l D cI i 0 ((nI n) - 1) ) ⟨va_cnB 3 hts gX5_has_X6_within_n17 rfl rfl rfl hK.2.2.2.1 hiniX6 (by decide +kernel) ⟨(Nat.le_of_ble_eq_true rfl), (Nat.le_of_ble_eq_true rfl)⟩, hst_X6_within, trivial⟩ (ro_pre hPc hK) rfl rfl hl.1 rfl (lv_room (Nat.le_of_ble_eq_true rfl)) dX5_has_8 ⟨Nat.zero_le _, Nat.zero_le _⟩) ?_
  subst hQ
  exact W.zret (v := fX6_within i 0 ((nI n) - 1)) (ty := .boolean) hx hb hr (nb_of (bX6_within ..)) (fun u9 ht hW => ⟨_, rfl, hF, ht⟩) (fun q hq => by cases hq) dX5_has_11
theorem bX5_has (n : Nat) (i : Int32) : fX5_has n i = 0 ∨ fX5_has n i = 1 := bX6_within ..
end
section
theorem nI_sub1k {n k : Nat} (h : k + 1 ≤ n) : nI n - 1 - nI k = nI (n - 1 - k) := by
  rw [show (1 : Int32) = nI 1 from rfl, pk_sub (by omega), pk_sub (by omega)]
theorem nI_half {n : Nat} (h : n < 2 ^ 31) : nI n / 2 = nI (n / 2) := pk_div (d := 2) h (by omega) (by omega)
theorem late_inc (k : Nat) : nI k - 15 + 1 = nI (k + 1) - 15 := by
  rw [← nI_1 k, Int32.sub_eq_add_neg, Int32.sub_eq_add_neg, Int32.add_assoc, Int32.add_assoc, Int32.add_comm (-15) 1]
theorem late_tab : ∀ k : Fin 33, ((31 ≤ k.val) → (15 : Int32) < nI k.val - 15) ∧ ((k.val < 31) → ¬ (15 : Int32) < nI k.val - 15) := by decide
theorem late_out {k : Nat} (h : 31 ≤ k) (h2 : k ≤ 32) : (15 : Int32) < nI k - 15 := (late_tab ⟨k, by omega⟩).1 h
theorem late_in {k : Nat} (h : k < 31) : ¬ (15 : Int32) < nI k - 15 := (late_tab ⟨k, by omega⟩).2 h
theorem i32_le (a b : Int32) : a ≤ b ↔ a.toInt ≤ b.toInt := Int32.le_iff_toInt_le
theorem i32_lt (a b : Int32) : a < b ↔ a.toInt < b.toInt := Int32.lt_iff_toInt_lt
theorem within_0 {v lo hi : Int32} : ¬ fX6_within v lo hi = 0 ↔ (lo ≤ v ∧ v ≤ hi) := by
  unfold fX6_within
  simp only [i32_le, i32_lt]
  constructor
  · intro h
    split at h
    · exact absurd rfl h
    · split at h
      · exact absurd rfl h
      · omega
  · intro h
    rw [if_neg (by omega), if_neg (by omega)]
    decide
theorem nI_m1_toInt {n : Nat} (h : n < 2 ^ 30) : (nI n - 1).toInt = (n : Int) - 1 := pk_sub_toInt (b := 1) h (by omega)
theorem has_nat {n : Nat} {i : Int32} (h : ¬ fX5_has n i = 0) (hn : n < 2 ^ 30) : ∃ j, j < n ∧ i = nI j := by
  unfold fX5_has at h
  obtain ⟨h1, h2⟩ := within_0.mp h
  rw [i32_le] at h1 h2
  rw [nI_m1_toInt hn] at h2
  obtain ⟨j, hj, e⟩ := nI_of (x := i) (by rw [i32_lt]; simp only [show (0 : Int32).toInt = 0 from rfl] at h1 ⊢; omega)
  refine ⟨j, ?_, e⟩
  rw [e, nI_toInt hj] at h2
  omega
theorem has_in {n : Nat} {i : Int32} (h : ¬ fX5_has n i = 0) (hn : n ≤ 16) : vp_in i 16 := by
  obtain ⟨j, hj, e⟩ := has_nat h (by omega)
  rw [e]
  exact vp_in_nI (by omega) (by omega)
def F_X5_reset_7 (n2 : Nat) : Nat → Nat → (Nat → Int32) → (Nat × (Nat → Int32))
  | 0, k7, tr => (n2, tr)
  | r7 + 1, k7, tr => F_X5_reset_7 n2 r7 (k7 + 1) (upd tr k7 0)
def fX5_reset (tr : Nat → Int32) (n2 : Nat) : Nat × (Nat → Int32) := F_X5_reset_7 n2 (n2 - 0) 0 tr
abbrev rmX5_reset : Room := { frames := 0, cells := 0, slots := 0, locals := 0 }
set_option maxHeartbeats 4000000 in
set_option maxRecDepth 100000 in
theorem c_X5_reset (l : Launch) (D : va_G) (cI : ClassId) (sz : Nat) (h : Nat) (t : Nat) (tr : Nat → Int32) (n : Nat) (n2 : Nat) (hn2 : n2 ≤ 16) : Met l yX5_reset wsX5_reset rmX5_reset (va_Pc [.ref h, .int (nI n2)] (wrP D [(cI, .int)] [(h, .inr (3, [.ref t, .int (nI n)])), (t, .inl (cI, 16, .inl tr))] sz)) (va_Qv (fun (_ : Unit) => True) (fun _ u9 => va_P D vwCl [(h, .inr (3, [.ref t, .int (nI ((fX5_reset tr n2).1))])), (t, .inl (cI, 16, .inl ((fX5_reset tr n2).2)))] u9.heap) (va_A [(h, .inr (3, [.ref t, .int (nI n)])), (t, .inl (cI, 16, .inl tr))] sz)) 0 0 (va_A [(h, .inr (3, [.ref t, .int (nI n)])), (t, .inl (cI, 16, .inl tr))] sz) := by
  generalize hF : fX5_reset tr n2 = T
  refine Met.ofW (cc := cX5_reset) (maxL := 3) (ret := none) (by decide) rfl ?_
  intro p e s m args below meth c s₁ B hml hv
  obtain ⟨rfl, hsz, hP, hK, hD0⟩ := hv
  have hx := B.exec
  have hb := B.bytes
  have hr := B.returns
  have hts := atoms_spec (ws := wsX5_reset) B.pre
  have hown : s.vm.findClass RX5 = some m.cls := findClass_of_methodNamed B.named
  have hlocks := B.notSynchronized
  have hinX5 : ∀ w ∈ u_ws RX5 TX5 2, w ∈ wsX5_reset := by decide +kernel
  have hf13 := hts (.fieldLink RX5 13 "PulseSigns$Sign" "length" "I") (by decide +kernel)
  have hf9 := hts (.fieldLink RX5 9 "PulseSigns$Sign" "turns" "[I") (by decide +kernel)
  subst hsz
  have hD := hD0.self (sz := s.heap.size)
  generalize hAe : va_A [(h, .inr (3, [.ref t, .int (nI n)])), (t, .inl (cI, 16, .inl tr))] s.heap.size = A at hD ⊢
  have hA : ∀ q : Nat, s.heap.size ≤ q → A q := fun q h => by rw [← hAe]; exact Or.inr h
  have hS : va_S A s.heap s.heap [] := va_S.rf
  have hP : va_P D vwCl [(h, .inr (3, [.ref t, .int (nI n)])), (t, .inl (cI, 16, .inl tr))] s.heap := hP
  have hl := lv_entry ([.ref h, .int (nI n2)]) (n := 3) (Nat.le_of_ble_eq_true rfl)
  rw [lg_entry_eq]
  generalize (lg_sl ([.ref h, .int (nI n2)]) ++ List.replicate (3 - (lg_sl ([.ref h, .int (nI n2)])).length) Slot.unset).toArray = ls at hl ⊢
  refine w_Q (fun Q hQ => ?_)
  have hl : lv_has ls 3 [(0, .ref h), (1, .int (nI n2))] := hl
  rw [fX5_reset] at hF
  refine lv_aload_n hx hb dX5_reset_0 rfl (lv_at hl 0 rfl) ?_
  refine lv_iload_n hx hb dX5_reset_1 rfl (lv_at hl 1 rfl) ?_
  refine va_put (D := D) (ci := 3) (v := .int (nI n2)) (ty := .int) (C := RX5) (T := TX5) (N := 2) hx hb hts hinX5 tyX5 tyX5_ok nmX5 hown hK.1 hP hD hS 0 rfl rfl 1 (by decide) hf13 (fun _ h9 => h9) rfl (by decide +kernel) rfl rfl (Nat.le_of_ble_eq_true rfl) dX5_reset_2 (fun H locs hP hD hS => ?_)
  have hP : va_P D vwCl [(h, .inr (3, [.ref t, .int (nI n2)])), (t, .inl (cI, 16, .inl tr))] H := hP
  have hD : va_D A [(h, .inr (3, [.ref t, .int (nI n2)])), (t, .inl (cI, 16, .inl tr))] := hD
  refine lv_iconst (v := 0) hx hb dX5_reset_5 (by decide) ?_
  refine lv_istore_n (lv' := [(2, .int 0), (0, .ref h), (1, .int (nI n2))]) hx hb dX5_reset_6 rfl hl (by decide) rfl (fun ls hl => ?_)
  have lp7 : ∀ (r7 k7 : Nat) (tr : Nat → Int32) (H : Heap) (locs : List Loc) (ls : Array Slot), r7 = n2 - k7 → k7 ≤ n2 + 1 → va_P D vwCl [(h, .inr (3, [.ref t, .int (nI n2)])), (t, .inl (cI, 16, .inl tr))] H → va_D A [(h, .inr (3, [.ref t, .int (nI n2)])), (t, .inl (cI, 16, .inl tr))] → va_S A s.heap H locs → lv_has ls 3 [(0, .ref h), (1, .int (nI n2)), (2, .int (nI k7))] → F_X5_reset_7 n2 r7 k7 tr = T → W p l e (headSpec wsX5_reset rmX5_reset).room s m ([.ref h, .int (nI n2)] : List Value).toArray below meth c H locs 0 0 Q (F0 m 7 ls []) := by
    intro r7
    induction r7 with
    | zero =>
      intro k7 tr H locs ls hi7_0 hi7_1 hP hD hS hl hF
      rw [F_X5_reset_7] at hF
      refine lv_iload_n hx hb dX5_reset_7 rfl (lv_at hl 2 rfl) ?_
      refine lv_iload_n hx hb dX5_reset_8 rfl (lv_at hl 1 rfl) ?_
      refine lv_icmp_ge (tgt := 25) hx hb dX5_reset_9 (by decide) (fun c9 => ?_) (fun c9 => ?_)
      · skip
        subst hF
        subst hQ
        exact W.vret hx hb hr (fun u9 ht hW => ⟨⟨(), rfl, trivial, by rw [← ht] at hP; exact hP⟩, hS.F ht⟩) hS.2.2 dX5_reset_25
      · exact False.elim (c9 (nI_le (a := n2) (b := k7) (by omega) (by omega)))
    | succ r7 ih7 =>
      intro k7 tr H locs ls hi7_0 hi7_1 hP hD hS hl hF
      rw [F_X5_reset_7] at hF
      refine lv_iload_n hx hb dX5_reset_7 rfl (lv_at hl 2 rfl) ?_
      refine lv_iload_n hx hb dX5_reset_8 rfl (lv_at hl 1 rfl) ?_
      refine lv_icmp_ge (tgt := 25) hx hb dX5_reset_9 (by decide) (fun c9 => ?_) (fun c9 => ?_)
      · exact False.elim (nI_ge (a := k7) (b := n2) (by omega) (by omega) c9)
      · skip
        refine lv_aload_n hx hb dX5_reset_12 rfl (lv_at hl 0 rfl) ?_
        refine va_get (D := D) (ci := 3) (v := .ref t) (C := RX5) (T := TX5) (N := 2) hx hb hts hinX5 hown hK.1 hP 0 rfl rfl 0 (by decide) hf9 (fun _ h9 => h9) rfl dX5_reset_13 ?_
        refine lv_iload_n hx hb dX5_reset_16 rfl (lv_at hl 2 rfl) ?_
        refine lv_iconst (v := 0) hx hb dX5_reset_17 (by decide) ?_
        refine w_ast hx hb hK hP hD hS 1 0 rfl rfl (k7) rfl (by omega) (by omega) dX5_reset_18 (fun H locs hP hD hS => ?_)
        have hP : va_P D vwCl [(h, .inr (3, [.ref t, .int (nI n2)])), (t, .inl (cI, 16, .inl (upd tr k7 0)))] H := hP
        have hD : va_D A [(h, .inr (3, [.ref t, .int (nI n2)])), (t, .inl (cI, 16, .inl (upd tr k7 0)))] := hD
        refine lv_iinc (v := nI (k7 + 1)) (lv' := [(2, .int (nI (k7 + 1))), (0, .ref h), (1, .int (nI n2))]) hx hb dX5_reset_19 hl (k := 2) rfl (nI_1 _) (by decide) rfl (fun ls hl => ?_)
        refine lv_goto (tgt := 7) hx hb dX5_reset_22 (by decide) ?_
        exact ih7 (k7 + 1) (upd tr k7 0) H locs ls (by omega) (by omega) hP hD hS (lv_sub hl [1, 2, 0] rfl) hF
  exact lp7 (n2 - 0) 0 tr H _ ls rfl (by omega) hP hD hS (lv_sub hl [1, 2, 0] rfl) hF
def F_X5_copy_10 (tr2 : Nat → Int32) (n2 : Nat) : Nat → Nat → (Nat → Int32) → (Nat × (Nat → Int32))
  | 0, k10, tr => (n2, tr)
  | r10 + 1, k10, tr => F_X5_copy_10 tr2 n2 r10 (k10 + 1) (upd tr k10 (tr2 k10))
def fX5_copy (tr : Nat → Int32) (tr2 : Nat → Int32) (n2 : Nat) : Nat × (Nat → Int32) := F_X5_copy_10 tr2 n2 (n2 - 0) 0 tr
abbrev rmX5_copy : Room := { frames := 0, cells := 0, slots := 0, locals := 0 }
set_option maxHeartbeats 4000000 in
set_option maxRecDepth 100000 in
theorem c_X5_copy (l : Launch) (D : va_G) (cI : ClassId) (sz : Nat) (h : Nat) (t : Nat) (tr : Nat → Int32) (n : Nat) (h2 : Nat) (t2 : Nat) (tr2 : Nat → Int32) (n2 : Nat) (hn2 : n2 ≤ 16) : Met l yX5_copy wsX5_copy rmX5_copy (va_Pc [.ref h, .ref h2] (wrP D [(cI, .int)] [(h, .inr (3, [.ref t, .int (nI n)])), (t, .inl (cI, 16, .inl tr)), (h2, .inr (3, [.ref t2, .int (nI n2)])), (t2, .inl (cI, 16, .inl tr2))] sz)) (va_Qv (fun (_ : Unit) => True) (fun _ u9 => va_P D vwCl [(h, .inr (3, [.ref t, .int (nI ((fX5_copy tr tr2 n2).1))])), (t, .inl (cI, 16, .inl ((fX5_copy tr tr2 n2).2))), (h2, .inr (3, [.ref t2, .int (nI n2)])), (t2, .inl (cI, 16, .inl tr2))] u9.heap) (va_A [(h, .inr (3, [.ref t, .int (nI n)])), (t, .inl (cI, 16, .inl tr)), (h2, .inr (3, [.ref t2, .int (nI n2)])), (t2, .inl (cI, 16, .inl tr2))] sz)) 0 0 (va_A [(h, .inr (3, [.ref t, .int (nI n)])), (t, .inl (cI, 16, .inl tr)), (h2, .inr (3, [.ref t2, .int (nI n2)])), (t2, .inl (cI, 16, .inl tr2))] sz) := by
  generalize hF : fX5_copy tr tr2 n2 = T
  refine Met.ofW (cc := cX5_copy) (maxL := 3) (ret := none) (by decide) rfl ?_
  intro p e s m args below meth c s₁ B hml hv
  obtain ⟨rfl, hsz, hP, hK, hD0⟩ := hv
  have hx := B.exec
  have hb := B.bytes
  have hr := B.returns
  have hts := atoms_spec (ws := wsX5_copy) B.pre
  have hown : s.vm.findClass RX5 = some m.cls := findClass_of_methodNamed B.named
  have hlocks := B.notSynchronized
  have hinX5 : ∀ w ∈ u_ws RX5 TX5 2, w ∈ wsX5_copy := by decide +kernel
  have hf13 := hts (.fieldLink RX5 13 "PulseSigns$Sign" "length" "I") (by decide +kernel)
  have hf9 := hts (.fieldLink RX5 9 "PulseSigns$Sign" "turns" "[I") (by decide +kernel)
  subst hsz
  have hD := hD0.self (sz := s.heap.size)
  generalize hAe : va_A [(h, .inr (3, [.ref t, .int (nI n)])), (t, .inl (cI, 16, .inl tr)), (h2, .inr (3, [.ref t2, .int (nI n2)])), (t2, .inl (cI, 16, .inl tr2))] s.heap.size = A at hD ⊢
  have hA : ∀ q : Nat, s.heap.size ≤ q → A q := fun q h => by rw [← hAe]; exact Or.inr h
  have hS : va_S A s.heap s.heap [] := va_S.rf
  have hP : va_P D vwCl [(h, .inr (3, [.ref t, .int (nI n)])), (t, .inl (cI, 16, .inl tr)), (h2, .inr (3, [.ref t2, .int (nI n2)])), (t2, .inl (cI, 16, .inl tr2))] s.heap := hP
  have hl := lv_entry ([.ref h, .ref h2]) (n := 3) (Nat.le_of_ble_eq_true rfl)
  rw [lg_entry_eq]
  generalize (lg_sl ([.ref h, .ref h2]) ++ List.replicate (3 - (lg_sl ([.ref h, .ref h2])).length) Slot.unset).toArray = ls at hl ⊢
  refine w_Q (fun Q hQ => ?_)
  have hl : lv_has ls 3 [(0, .ref h), (1, .ref h2)] := hl
  rw [fX5_copy] at hF
  refine lv_aload_n hx hb dX5_copy_0 rfl (lv_at hl 0 rfl) ?_
  refine lv_aload_n hx hb dX5_copy_1 rfl (lv_at hl 1 rfl) ?_
  refine va_get (D := D) (ci := 3) (v := .int (nI n2)) (C := RX5) (T := TX5) (N := 2) hx hb hts hinX5 hown hK.1 hP 2 rfl rfl 1 (by decide) hf13 (fun _ h9 => h9) rfl dX5_copy_2 ?_
  refine va_put (D := D) (ci := 3) (v := .int (nI n2)) (ty := .int) (C := RX5) (T := TX5) (N := 2) hx hb hts hinX5 tyX5 tyX5_ok nmX5 hown hK.1 hP hD hS 0 rfl rfl 1 (by decide) hf13 (fun _ h9 => h9) rfl (by decide +kernel) rfl rfl (Nat.le_of_ble_eq_true rfl) dX5_copy_5 (fun H locs hP hD hS => ?_)
  have hP : va_P D vwCl [(h, .inr (3, [.ref t, .int (nI n2)])), (t, .inl (cI, 16, .inl tr)), (h2, .inr (3, [.ref t2, .int (nI n2)])), (t2, .inl (cI, 16, .inl tr2))] H := hP
  have hD : va_D A [(h, .inr (3, [.ref t, .int (nI n2)])), (t, .inl (cI, 16, .inl tr)), (h2, .inr (3, [.ref t2, .int (nI n2)])), (t2, .inl (cI, 16, .inl tr2))] := hD
  refine lv_iconst (v := 0) hx hb dX5_copy_8 (by decide) ?_
  refine lv_istore_n (lv' := [(2, .int 0), (0, .ref h), (1, .ref h2)]) hx hb dX5_copy_9 rfl hl (by decide) rfl (fun ls hl => ?_)
  have lp10 : ∀ (r10 k10 : Nat) (tr : Nat → Int32) (H : Heap) (locs : List Loc) (ls : Array Slot), r10 = n2 - k10 → k10 ≤ n2 + 1 → va_P D vwCl [(h, .inr (3, [.ref t, .int (nI n2)])), (t, .inl (cI, 16, .inl tr)), (h2, .inr (3, [.ref t2, .int (nI n2)])), (t2, .inl (cI, 16, .inl tr2))] H → va_D A [(h, .inr (3, [.ref t, .int (nI n2)])), (t, .inl (cI, 16, .inl tr)), (h2, .inr (3, [.ref t2, .int (nI n2)])), (t2, .inl (cI, 16, .inl tr2))] → va_S A s.heap H locs → lv_has ls 3 [(0, .ref h), (1, .ref h2), (2, .int (nI k10))] → F_X5_copy_10 tr2 n2 r10 k10 tr = T → W p l e (headSpec wsX5_copy rmX5_copy).room s m ([.ref h, .ref h2] : List Value).toArray below meth c H locs 0 0 Q (F0 m 10 ls []) := by
    intro r10
    induction r10 with
    | zero =>
      intro k10 tr H locs ls hi10_0 hi10_1 hP hD hS hl hF
      rw [F_X5_copy_10] at hF
      refine lv_iload_n hx hb dX5_copy_10 rfl (lv_at hl 2 rfl) ?_
      refine lv_aload_n hx hb dX5_copy_11 rfl (lv_at hl 1 rfl) ?_
      refine va_get (D := D) (ci := 3) (v := .int (nI n2)) (C := RX5) (T := TX5) (N := 2) hx hb hts hinX5 hown hK.1 hP 2 rfl rfl 1 (by decide) hf13 (fun _ h9 => h9) rfl dX5_copy_12 ?_
      refine lv_icmp_ge (tgt := 36) hx hb dX5_copy_15 (by decide) (fun c15 => ?_) (fun c15 => ?_)
      · skip
        subst hF
        subst hQ
        exact W.vret hx hb hr (fun u9 ht hW => ⟨⟨(), rfl, trivial, by rw [← ht] at hP; exact hP⟩, hS.F ht⟩) hS.2.2 dX5_copy_36
      · exact False.elim (c15 (nI_le (a := n2) (b := k10) (by omega) (by omega)))
    | succ r10 ih10 =>
      intro k10 tr H locs ls hi10_0 hi10_1 hP hD hS hl hF
      rw [F_X5_copy_10] at hF
      refine lv_iload_n hx hb dX5_copy_10 rfl (lv_at hl 2 rfl) ?_
      refine lv_aload_n hx hb dX5_copy_11 rfl (lv_at hl 1 rfl) ?_
      refine va_get (D := D) (ci := 3) (v := .int (nI n2)) (C := RX5) (T := TX5) (N := 2) hx hb hts hinX5 hown hK.1 hP 2 rfl rfl 1 (by decide) hf13 (fun _ h9 => h9) rfl dX5_copy_12 ?_
      refine lv_icmp_ge (tgt := 36) hx hb dX5_copy_15 (by decide) (fun c15 => ?_) (fun c15 => ?_)
      · exact False.elim (nI_ge (a := k10) (b := n2) (by omega) (by omega) c15)
      · skip
        refine lv_aload_n hx hb dX5_copy_18 rfl (lv_at hl 0 rfl) ?_
        refine va_get (D := D) (ci := 3) (v := .ref t) (C := RX5) (T := TX5) (N := 2) hx hb hts hinX5 hown hK.1 hP 0 rfl rfl 0 (by decide) hf9 (fun _ h9 => h9) rfl dX5_copy_19 ?_
        refine lv_iload_n hx hb dX5_copy_22 rfl (lv_at hl 2 rfl) ?_
        refine lv_aload_n hx hb dX5_copy_23 rfl (lv_at hl 1 rfl) ?_
        refine va_get (D := D) (ci := 3) (v := .ref t2) (C := RX5) (T := TX5) (N := 2) hx hb hts hinX5 hown hK.1 hP 2 rfl rfl 0 (by decide) hf9 (fun _ h9 => h9) rfl dX5_copy_24 ?_
        refine lv_iload_n hx hb dX5_copy_27 rfl (lv_at hl 2 rfl) ?_
        refine w_ald hx hb hK hP 3 0 rfl rfl (k10) rfl (by omega) (by omega) dX5_copy_28 ?_
        refine w_ast hx hb hK hP hD hS 1 0 rfl rfl (k10) rfl (by omega) (by omega) dX5_copy_29 (fun H locs hP hD hS => ?_)
        have hP : va_P D vwCl [(h, .inr (3, [.ref t, .int (nI n2)])), (t, .inl (cI, 16, .inl (upd tr k10 (tr2 k10)))), (h2, .inr (3, [.ref t2, .int (nI n2)])), (t2, .inl (cI, 16, .inl tr2))] H := hP
        have hD : va_D A [(h, .inr (3, [.ref t, .int (nI n2)])), (t, .inl (cI, 16, .inl (upd tr k10 (tr2 k10)))), (h2, .inr (3, [.ref t2, .int (nI n2)])), (t2, .inl (cI, 16, .inl tr2))] := hD
        refine lv_iinc (v := nI (k10 + 1)) (lv' := [(2, .int (nI (k10 + 1))), (0, .ref h), (1, .ref h2)]) hx hb dX5_copy_30 hl (k := 2) rfl (nI_1 _) (by decide) rfl (fun ls hl => ?_)
        refine lv_goto (tgt := 10) hx hb dX5_copy_33 (by decide) ?_
        exact ih10 (k10 + 1) (upd tr k10 (tr2 k10)) H locs ls (by omega) (by omega) hP hD hS (lv_sub hl [1, 2, 0] rfl) hF
  exact lp10 (n2 - 0) 0 tr H _ ls rfl (by omega) hP hD hS (lv_sub hl [1, 2, 0] rfl) hF
def F_X5_copy_same_10 (n : Nat) : Nat → Nat → (Nat → Int32) → (Nat × (Nat → Int32))
  | 0, k10, tr => (n, tr)
  | r10 + 1, k10, tr => F_X5_copy_same_10 n r10 (k10 + 1) (upd tr k10 (tr k10))
def fX5_copy_same (tr : Nat → Int32) (n : Nat) : Nat × (Nat → Int32) := F_X5_copy_same_10 n (n - 0) 0 tr
abbrev rmX5_copy_same : Room := { frames := 0, cells := 0, slots := 0, locals := 0 }
set_option maxHeartbeats 4000000 in
set_option maxRecDepth 100000 in
theorem c_X5_copy_same (l : Launch) (D : va_G) (cI : ClassId) (sz : Nat) (h : Nat) (t : Nat) (tr : Nat → Int32) (n : Nat) (hn : n ≤ 16) : Met l yX5_copy wsX5_copy rmX5_copy_same (va_Pc [.ref h, .ref h] (wrP D [(cI, .int)] [(h, .inr (3, [.ref t, .int (nI n)])), (t, .inl (cI, 16, .inl tr))] sz)) (va_Qv (fun (_ : Unit) => True) (fun _ u9 => va_P D vwCl [(h, .inr (3, [.ref t, .int (nI ((fX5_copy_same tr n).1))])), (t, .inl (cI, 16, .inl ((fX5_copy_same tr n).2)))] u9.heap) (va_A [(h, .inr (3, [.ref t, .int (nI n)])), (t, .inl (cI, 16, .inl tr))] sz)) 0 0 (va_A [(h, .inr (3, [.ref t, .int (nI n)])), (t, .inl (cI, 16, .inl tr))] sz) := by
  generalize hF : fX5_copy_same tr n = T
  refine Met.ofW (cc := cX5_copy) (maxL := 3) (ret := none) (by decide) rfl ?_
  intro p e s m args below meth c s₁ B hml hv
  obtain ⟨rfl, hsz, hP, hK, hD0⟩ := hv
  have hx := B.exec
  have hb := B.bytes
  have hr := B.returns
  have hts := atoms_spec (ws := wsX5_copy) B.pre
  have hown : s.vm.findClass RX5 = some m.cls := findClass_of_methodNamed B.named
  have hlocks := B.notSynchronized
  have hinX5 : ∀ w ∈ u_ws RX5 TX5 2, w ∈ wsX5_copy := by decide +kernel
  have hf13 := hts (.fieldLink RX5 13 "PulseSigns$Sign" "length" "I") (by decide +kernel)
  have hf9 := hts (.fieldLink RX5 9 "PulseSigns$Sign" "turns" "[I") (by decide +kernel)
  subst hsz
  have hD := hD0.self (sz := s.heap.size)
  generalize hAe : va_A [(h, .inr (3, [.ref t, .int (nI n)])), (t, .inl (cI, 16, .inl tr))] s.heap.size = A at hD ⊢
  have hA : ∀ q : Nat, s.heap.size ≤ q → A q := fun q h => by rw [← hAe]; exact Or.inr h
  have hS : va_S A s.heap s.heap [] := va_S.rf
  have hP : va_P D vwCl [(h, .inr (3, [.ref t, .int (nI n)])), (t, .inl (cI, 16, .inl tr))] s.heap := hP
  have hl := lv_entry ([.ref h, .ref h]) (n := 3) (Nat.le_of_ble_eq_true rfl)
  rw [lg_entry_eq]
  generalize (lg_sl ([.ref h, .ref h]) ++ List.replicate (3 - (lg_sl ([.ref h, .ref h])).length) Slot.unset).toArray = ls at hl ⊢
  refine w_Q (fun Q hQ => ?_)
  have hl : lv_has ls 3 [(0, .ref h), (1, .ref h)] := hl
  rw [fX5_copy_same] at hF
  refine lv_aload_n hx hb dX5_copy_0 rfl (lv_at hl 0 rfl) ?_
  refine lv_aload_n hx hb dX5_copy_1 rfl (lv_at hl 1 rfl) ?_
  refine va_get (D := D) (ci := 3) (v := .int (nI n)) (C := RX5) (T := TX5) (N := 2) hx hb hts hinX5 hown hK.1 hP 0 rfl rfl 1 (by decide) hf13 (fun _ h9 => h9) rfl dX5_copy_2 ?_
  refine va_put (D := D) (ci := 3) (v := .int (nI n)) (ty := .int) (C := RX5) (T := TX5) (N := 2) hx hb hts hinX5 tyX5 tyX5_ok nmX5 hown hK.1 hP hD hS 0 rfl rfl 1 (by decide) hf13 (fun _ h9 => h9) rfl (by decide +kernel) rfl rfl (Nat.le_of_ble_eq_true rfl) dX5_copy_5 (fun H locs hP hD hS => ?_)
  have hP : va_P D vwCl [(h, .inr (3, [.ref t, .int (nI n)])), (t, .inl (cI, 16, .inl tr))] H := hP
  have hD : va_D A [(h, .inr (3, [.ref t, .int (nI n)])), (t, .inl (cI, 16, .inl tr))] := hD
  refine lv_iconst (v := 0) hx hb dX5_copy_8 (by decide) ?_
  refine lv_istore_n (lv' := [(2, .int 0), (0, .ref h), (1, .ref h)]) hx hb dX5_copy_9 rfl hl (by decide) rfl (fun ls hl => ?_)
  have lp10 : ∀ (r10 k10 : Nat) (tr : Nat → Int32) (H : Heap) (locs : List Loc) (ls : Array Slot), r10 = n - k10 → k10 ≤ n + 1 → va_P D vwCl [(h, .inr (3, [.ref t, .int (nI n)])), (t, .inl (cI, 16, .inl tr))] H → va_D A [(h, .inr (3, [.ref t, .int (nI n)])), (t, .inl (cI, 16, .inl tr))] → va_S A s.heap H locs → lv_has ls 3 [(0, .ref h), (1, .ref h), (2, .int (nI k10))] → F_X5_copy_same_10 n r10 k10 tr = T → W p l e (headSpec wsX5_copy rmX5_copy_same).room s m ([.ref h, .ref h] : List Value).toArray below meth c H locs 0 0 Q (F0 m 10 ls []) := by
    intro r10
    induction r10 with
    | zero =>
      intro k10 tr H locs ls hi10_0 hi10_1 hP hD hS hl hF
      rw [F_X5_copy_same_10] at hF
      refine lv_iload_n hx hb dX5_copy_10 rfl (lv_at hl 2 rfl) ?_
      refine lv_aload_n hx hb dX5_copy_11 rfl (lv_at hl 1 rfl) ?_
      refine va_get (D := D) (ci := 3) (v := .int (nI n)) (C := RX5) (T := TX5) (N := 2) hx hb hts hinX5 hown hK.1 hP 0 rfl rfl 1 (by decide) hf13 (fun _ h9 => h9) rfl dX5_copy_12 ?_
      refine lv_icmp_ge (tgt := 36) hx hb dX5_copy_15 (by decide) (fun c15 => ?_) (fun c15 => ?_)
      · skip
        subst hF
        subst hQ
        exact W.vret hx hb hr (fun u9 ht hW => ⟨⟨(), rfl, trivial, by rw [← ht] at hP; exact hP⟩, hS.F ht⟩) hS.2.2 dX5_copy_36
      · exact False.elim (c15 (nI_le (a := n) (b := k10) (by omega) (by omega)))
    | succ r10 ih10 =>
      intro k10 tr H locs ls hi10_0 hi10_1 hP hD hS hl hF
      rw [F_X5_copy_same_10] at hF
      refine lv_iload_n hx hb dX5_copy_10 rfl (lv_at hl 2 rfl) ?_
      refine lv_aload_n hx hb dX5_copy_11 rfl (lv_at hl 1 rfl) ?_
      refine va_get (D := D) (ci := 3) (v := .int (nI n)) (C := RX5) (T := TX5) (N := 2) hx hb hts hinX5 hown hK.1 hP 0 rfl rfl 1 (by decide) hf13 (fun _ h9 => h9) rfl dX5_copy_12 ?_
      refine lv_icmp_ge (tgt := 36) hx hb dX5_copy_15 (by decide) (fun c15 => ?_) (fun c15 => ?_)
      · exact False.elim (nI_ge (a := k10) (b := n) (by omega) (by omega) c15)
      · skip
        refine lv_aload_n hx hb dX5_copy_18 rfl (lv_at hl 0 rfl) ?_
        refine va_get (D := D) (ci := 3) (v := .ref t) (C := RX5) (T := TX5) (N := 2) hx hb hts hinX5 hown hK.1 hP 0 rfl rfl 0 (by decide) hf9 (fun _ h9 => h9) rfl dX5_copy_19 ?_
        refine lv_iload_n hx hb dX5_copy_22 rfl (lv_at hl 2 rfl) ?_
        refine lv_aload_n hx hb dX5_copy_23 rfl (lv_at hl 1 rfl) ?_
        refine va_get (D := D) (ci := 3) (v := .ref t) (C := RX5) (T := TX5) (N := 2) hx hb hts hinX5 hown hK.1 hP 0 rfl rfl 0 (by decide) hf9 (fun _ h9 => h9) rfl dX5_copy_24 ?_
        refine lv_iload_n hx hb dX5_copy_27 rfl (lv_at hl 2 rfl) ?_
        refine w_ald hx hb hK hP 1 0 rfl rfl (k10) rfl (by omega) (by omega) dX5_copy_28 ?_
        refine w_ast hx hb hK hP hD hS 1 0 rfl rfl (k10) rfl (by omega) (by omega) dX5_copy_29 (fun H locs hP hD hS => ?_)
        have hP : va_P D vwCl [(h, .inr (3, [.ref t, .int (nI n)])), (t, .inl (cI, 16, .inl (upd tr k10 (tr k10))))] H := hP
        have hD : va_D A [(h, .inr (3, [.ref t, .int (nI n)])), (t, .inl (cI, 16, .inl (upd tr k10 (tr k10))))] := hD
        refine lv_iinc (v := nI (k10 + 1)) (lv' := [(2, .int (nI (k10 + 1))), (0, .ref h), (1, .ref h)]) hx hb dX5_copy_30 hl (k := 2) rfl (nI_1 _) (by decide) rfl (fun ls hl => ?_)
        refine lv_goto (tgt := 10) hx hb dX5_copy_33 (by decide) ?_
        exact ih10 (k10 + 1) (upd tr k10 (tr k10)) H locs ls (by omega) (by omega) hP hD hS (lv_sub hl [1, 2, 0] rfl) hF
  exact lp10 (n - 0) 0 tr H _ ls rfl (by omega) hP hD hS (lv_sub hl [1, 2, 0] rfl) hF
def F_X5_reverse_2 (n : Nat) : Nat → Nat → (Nat → Int32) → (Nat → Int32)
  | 0, k2, tr => tr
  | r2 + 1, k2, tr => F_X5_reverse_2 n r2 (k2 + 1) (upd (upd tr k2 (tr (n - 1 - k2))) (n - 1 - k2) (tr k2))
def fX5_reverse (tr : Nat → Int32) (n : Nat) : (Nat → Int32) := F_X5_reverse_2 n ((n / 2) - 0) 0 tr
abbrev rmX5_reverse : Room := { frames := 0, cells := 0, slots := 0, locals := 0 }
set_option maxHeartbeats 4000000 in
set_option maxRecDepth 100000 in
theorem c_X5_reverse (l : Launch) (D : va_G) (cI : ClassId) (sz : Nat) (h : Nat) (t : Nat) (tr : Nat → Int32) (n : Nat) (hn : n ≤ 16) : Met l yX5_reverse wsX5_reverse rmX5_reverse (va_Pc [.ref h] (wrP D [(cI, .int)] [(h, .inr (3, [.ref t, .int (nI n)])), (t, .inl (cI, 16, .inl tr))] sz)) (va_Qv (fun (_ : Unit) => True) (fun _ u9 => va_P D vwCl [(h, .inr (3, [.ref t, .int (nI n)])), (t, .inl (cI, 16, .inl (fX5_reverse tr n)))] u9.heap) (va_A [(h, .inr (3, [.ref t, .int (nI n)])), (t, .inl (cI, 16, .inl tr))] sz)) 0 0 (va_A [(h, .inr (3, [.ref t, .int (nI n)])), (t, .inl (cI, 16, .inl tr))] sz) := by
  generalize hF : fX5_reverse tr n = T
  refine Met.ofW (cc := cX5_reverse) (maxL := 3) (ret := none) (by decide) rfl ?_
  intro p e s m args below meth c s₁ B hml hv
  obtain ⟨rfl, hsz, hP, hK, hD0⟩ := hv
  have hx := B.exec
  have hb := B.bytes
  have hr := B.returns
  have hts := atoms_spec (ws := wsX5_reverse) B.pre
  have hown : s.vm.findClass RX5 = some m.cls := findClass_of_methodNamed B.named
  have hlocks := B.notSynchronized
  have hinX5 : ∀ w ∈ u_ws RX5 TX5 2, w ∈ wsX5_reverse := by decide +kernel
  have hf13 := hts (.fieldLink RX5 13 "PulseSigns$Sign" "length" "I") (by decide +kernel)
  have hf9 := hts (.fieldLink RX5 9 "PulseSigns$Sign" "turns" "[I") (by decide +kernel)
  subst hsz
  have hD := hD0.self (sz := s.heap.size)
  generalize hAe : va_A [(h, .inr (3, [.ref t, .int (nI n)])), (t, .inl (cI, 16, .inl tr))] s.heap.size = A at hD ⊢
  have hA : ∀ q : Nat, s.heap.size ≤ q → A q := fun q h => by rw [← hAe]; exact Or.inr h
  have hS : va_S A s.heap s.heap [] := va_S.rf
  have hP : va_P D vwCl [(h, .inr (3, [.ref t, .int (nI n)])), (t, .inl (cI, 16, .inl tr))] s.heap := hP
  have hl := lv_entry ([.ref h]) (n := 3) (Nat.le_of_ble_eq_true rfl)
  rw [lg_entry_eq]
  generalize (lg_sl ([.ref h]) ++ List.replicate (3 - (lg_sl ([.ref h])).length) Slot.unset).toArray = ls at hl ⊢
  refine w_Q (fun Q hQ => ?_)
  have hl : lv_has ls 3 [(0, .ref h)] := hl
  rw [fX5_reverse] at hF
  refine lv_iconst (v := 0) hx hb dX5_reverse_0 (by decide) ?_
  refine lv_istore_n (lv' := [(1, .int 0), (0, .ref h)]) hx hb dX5_reverse_1 rfl hl (by decide) rfl (fun ls hl => ?_)
  have lp2 : ∀ (r2 k2 : Nat) (tr : Nat → Int32) (H : Heap) (locs : List Loc) (ls : Array Slot), r2 = (n / 2) - k2 → k2 ≤ (n / 2) + 1 → va_P D vwCl [(h, .inr (3, [.ref t, .int (nI n)])), (t, .inl (cI, 16, .inl tr))] H → va_D A [(h, .inr (3, [.ref t, .int (nI n)])), (t, .inl (cI, 16, .inl tr))] → va_S A s.heap H locs → lv_has ls 3 [(0, .ref h), (1, .int (nI k2))] → F_X5_reverse_2 n r2 k2 tr = T → W p l e (headSpec wsX5_reverse rmX5_reverse).room s m ([.ref h] : List Value).toArray below meth c H locs 0 0 Q (F0 m 2 ls []) := by
    intro r2
    induction r2 with
    | zero =>
      intro k2 tr H locs ls hi2_0 hi2_1 hP hD hS hl hF
      rw [F_X5_reverse_2] at hF
      refine lv_iload_n hx hb dX5_reverse_2 rfl (lv_at hl 1 rfl) ?_
      refine lv_aload_n hx hb dX5_reverse_3 rfl (lv_at hl 0 rfl) ?_
      refine va_get (D := D) (ci := 3) (v := .int (nI n)) (C := RX5) (T := TX5) (N := 2) hx hb hts hinX5 hown hK.1 hP 0 rfl rfl 1 (by decide) hf13 (fun _ h9 => h9) rfl dX5_reverse_4 ?_
      refine lv_iconst (v := 2) hx hb dX5_reverse_7 (by decide) ?_
      refine lv_idiv hx hb dX5_reverse_8 (by decide) ?_
      refine lv_icmp_ge (tgt := 58) hx hb dX5_reverse_9 (by decide) (fun c9 => ?_) (fun c9 => ?_)
      · skip
        subst hF
        subst hQ
        exact W.vret hx hb hr (fun u9 ht hW => ⟨⟨(), rfl, trivial, by rw [← ht] at hP; exact hP⟩, hS.F ht⟩) hS.2.2 dX5_reverse_58
      · exact False.elim (c9 (by rw [nI_half (by omega)]; exact nI_le (by omega) (by omega)))
    | succ r2 ih2 =>
      intro k2 tr H locs ls hi2_0 hi2_1 hP hD hS hl hF
      rw [F_X5_reverse_2] at hF
      refine lv_iload_n hx hb dX5_reverse_2 rfl (lv_at hl 1 rfl) ?_
      refine lv_aload_n hx hb dX5_reverse_3 rfl (lv_at hl 0 rfl) ?_
      refine va_get (D := D) (ci := 3) (v := .int (nI n)) (C := RX5) (T := TX5) (N := 2) hx hb hts hinX5 hown hK.1 hP 0 rfl rfl 1 (by decide) hf13 (fun _ h9 => h9) rfl dX5_reverse_4 ?_
      refine lv_iconst (v := 2) hx hb dX5_reverse_7 (by decide) ?_
      refine lv_idiv hx hb dX5_reverse_8 (by decide) ?_
      refine lv_icmp_ge (tgt := 58) hx hb dX5_reverse_9 (by decide) (fun c9 => ?_) (fun c9 => ?_)
      · exact False.elim ((by rw [nI_half (by omega)] at c9; exact nI_ge (by omega) (by omega) c9))
      · skip
        refine lv_aload_n hx hb dX5_reverse_12 rfl (lv_at hl 0 rfl) ?_
        refine va_get (D := D) (ci := 3) (v := .ref t) (C := RX5) (T := TX5) (N := 2) hx hb hts hinX5 hown hK.1 hP 0 rfl rfl 0 (by decide) hf9 (fun _ h9 => h9) rfl dX5_reverse_13 ?_
        refine lv_iload_n hx hb dX5_reverse_16 rfl (lv_at hl 1 rfl) ?_
        refine w_ald hx hb hK hP 1 0 rfl rfl (k2) rfl (by omega) (by omega) dX5_reverse_17 ?_
        refine lv_istore_n (lv' := [(2, .int (tr k2)), (0, .ref h), (1, .int (nI k2))]) hx hb dX5_reverse_18 rfl hl (by decide) rfl (fun ls hl => ?_)
        refine lv_aload_n hx hb dX5_reverse_19 rfl (lv_at hl 1 rfl) ?_
        refine va_get (D := D) (ci := 3) (v := .ref t) (C := RX5) (T := TX5) (N := 2) hx hb hts hinX5 hown hK.1 hP 0 rfl rfl 0 (by decide) hf9 (fun _ h9 => h9) rfl dX5_reverse_20 ?_
        refine lv_iload_n hx hb dX5_reverse_23 rfl (lv_at hl 2 rfl) ?_
        refine lv_aload_n hx hb dX5_reverse_24 rfl (lv_at hl 1 rfl) ?_
        refine va_get (D := D) (ci := 3) (v := .ref t) (C := RX5) (T := TX5) (N := 2) hx hb hts hinX5 hown hK.1 hP 0 rfl rfl 0 (by decide) hf9 (fun _ h9 => h9) rfl dX5_reverse_25 ?_
        refine lv_aload_n hx hb dX5_reverse_28 rfl (lv_at hl 1 rfl) ?_
        refine va_get (D := D) (ci := 3) (v := .int (nI n)) (C := RX5) (T := TX5) (N := 2) hx hb hts hinX5 hown hK.1 hP 0 rfl rfl 1 (by decide) hf13 (fun _ h9 => h9) rfl dX5_reverse_29 ?_
        refine lv_iconst (v := 1) hx hb dX5_reverse_32 (by decide) ?_
        refine lv_isub hx hb dX5_reverse_33 ?_
        refine lv_iload_n hx hb dX5_reverse_34 rfl (lv_at hl 2 rfl) ?_
        refine lv_isub hx hb dX5_reverse_35 ?_
        refine w_ald hx hb hK hP 1 0 rfl rfl (n - 1 - k2) (nI_sub1k (by omega)) (by omega) (by omega) dX5_reverse_36 ?_
        refine w_ast hx hb hK hP hD hS 1 0 rfl rfl (k2) rfl (by omega) (by omega) dX5_reverse_37 (fun H locs hP hD hS => ?_)
        have hP : va_P D vwCl [(h, .inr (3, [.ref t, .int (nI n)])), (t, .inl (cI, 16, .inl (upd tr k2 (tr (n - 1 - k2)))))] H := hP
        have hD : va_D A [(h, .inr (3, [.ref t, .int (nI n)])), (t, .inl (cI, 16, .inl (upd tr k2 (tr (n - 1 - k2)))))] := hD
        refine lv_aload_n hx hb dX5_reverse_38 rfl (lv_at hl 1 rfl) ?_
        refine va_get (D := D) (ci := 3) (v := .ref t) (C := RX5) (T := TX5) (N := 2) hx hb hts hinX5 hown hK.1 hP 0 rfl rfl 0 (by decide) hf9 (fun _ h9 => h9) rfl dX5_reverse_39 ?_
        refine lv_aload_n hx hb dX5_reverse_42 rfl (lv_at hl 1 rfl) ?_
        refine va_get (D := D) (ci := 3) (v := .int (nI n)) (C := RX5) (T := TX5) (N := 2) hx hb hts hinX5 hown hK.1 hP 0 rfl rfl 1 (by decide) hf13 (fun _ h9 => h9) rfl dX5_reverse_43 ?_
        refine lv_iconst (v := 1) hx hb dX5_reverse_46 (by decide) ?_
        refine lv_isub hx hb dX5_reverse_47 ?_
        refine lv_iload_n hx hb dX5_reverse_48 rfl (lv_at hl 2 rfl) ?_
        refine lv_isub hx hb dX5_reverse_49 ?_
        refine lv_iload_n hx hb dX5_reverse_50 rfl (lv_at hl 0 rfl) ?_
        refine w_ast hx hb hK hP hD hS 1 0 rfl rfl (n - 1 - k2) (nI_sub1k (by omega)) (by omega) (by omega) dX5_reverse_51 (fun H locs hP hD hS => ?_)
        have hP : va_P D vwCl [(h, .inr (3, [.ref t, .int (nI n)])), (t, .inl (cI, 16, .inl (upd (upd tr k2 (tr (n - 1 - k2))) (n - 1 - k2) (tr k2))))] H := hP
        have hD : va_D A [(h, .inr (3, [.ref t, .int (nI n)])), (t, .inl (cI, 16, .inl (upd (upd tr k2 (tr (n - 1 - k2))) (n - 1 - k2) (tr k2))))] := hD
        refine lv_iinc (v := nI (k2 + 1)) (lv' := [(1, .int (nI (k2 + 1))), (2, .int (tr k2)), (0, .ref h)]) hx hb dX5_reverse_52 hl (k := 2) rfl (nI_1 _) (by decide) rfl (fun ls hl => ?_)
        refine lv_goto (tgt := 2) hx hb dX5_reverse_55 (by decide) ?_
        exact ih2 (k2 + 1) (upd (upd tr k2 (tr (n - 1 - k2))) (n - 1 - k2) (tr k2)) H locs ls (by omega) (by omega) hP hD hS (lv_sub hl [2, 0] rfl) hF
  exact lp2 ((n / 2) - 0) 0 tr s.heap _ ls rfl (by omega) hP hD hS (lv_sub hl [1, 0] rfl) hF
def F_X5_mirror_2  : Nat → Nat → (Nat → Int32) → (Nat → Int32)
  | 0, k2, tr => tr
  | r2 + 1, k2, tr => F_X5_mirror_2  r2 (k2 + 1) (upd tr k2 ((-(tr k2)) &&& 3))
def fX5_mirror (tr : Nat → Int32) (n : Nat) : (Nat → Int32) := F_X5_mirror_2  (n - 0) 0 tr
abbrev rmX5_mirror : Room := { frames := 0, cells := 0, slots := 0, locals := 0 }
set_option maxHeartbeats 4000000 in
set_option maxRecDepth 100000 in
theorem c_X5_mirror (l : Launch) (D : va_G) (cI : ClassId) (sz : Nat) (h : Nat) (t : Nat) (tr : Nat → Int32) (n : Nat) (hn : n ≤ 16) : Met l yX5_mirror wsX5_mirror rmX5_mirror (va_Pc [.ref h] (wrP D [(cI, .int)] [(h, .inr (3, [.ref t, .int (nI n)])), (t, .inl (cI, 16, .inl tr))] sz)) (va_Qv (fun (_ : Unit) => True) (fun _ u9 => va_P D vwCl [(h, .inr (3, [.ref t, .int (nI n)])), (t, .inl (cI, 16, .inl (fX5_mirror tr n)))] u9.heap) (va_A [(h, .inr (3, [.ref t, .int (nI n)])), (t, .inl (cI, 16, .inl tr))] sz)) 0 0 (va_A [(h, .inr (3, [.ref t, .int (nI n)])), (t, .inl (cI, 16, .inl tr))] sz) := by
  generalize hF : fX5_mirror tr n = T
  refine Met.ofW (cc := cX5_mirror) (maxL := 2) (ret := none) (by decide) rfl ?_
  intro p e s m args below meth c s₁ B hml hv
  obtain ⟨rfl, hsz, hP, hK, hD0⟩ := hv
  have hx := B.exec
  have hb := B.bytes
  have hr := B.returns
  have hts := atoms_spec (ws := wsX5_mirror) B.pre
  have hown : s.vm.findClass RX5 = some m.cls := findClass_of_methodNamed B.named
  have hlocks := B.notSynchronized
  have hinX5 : ∀ w ∈ u_ws RX5 TX5 2, w ∈ wsX5_mirror := by decide +kernel
  have hf13 := hts (.fieldLink RX5 13 "PulseSigns$Sign" "length" "I") (by decide +kernel)
  have hf9 := hts (.fieldLink RX5 9 "PulseSigns$Sign" "turns" "[I") (by decide +kernel)
  subst hsz
  have hD := hD0.self (sz := s.heap.size)
  generalize hAe : va_A [(h, .inr (3, [.ref t, .int (nI n)])), (t, .inl (cI, 16, .inl tr))] s.heap.size = A at hD ⊢
  have hA : ∀ q : Nat, s.heap.size ≤ q → A q := fun q h => by rw [← hAe]; exact Or.inr h
  have hS : va_S A s.heap s.heap [] := va_S.rf
  have hP : va_P D vwCl [(h, .inr (3, [.ref t, .int (nI n)])), (t, .inl (cI, 16, .inl tr))] s.heap := hP
  have hl := lv_entry ([.ref h]) (n := 2) (Nat.le_of_ble_eq_true rfl)
  rw [lg_entry_eq]
  generalize (lg_sl ([.ref h]) ++ List.replicate (2 - (lg_sl ([.ref h])).length) Slot.unset).toArray = ls at hl ⊢
  refine w_Q (fun Q hQ => ?_)
  have hl : lv_has ls 2 [(0, .ref h)] := hl
  rw [fX5_mirror] at hF
  refine lv_iconst (v := 0) hx hb dX5_mirror_0 (by decide) ?_
  refine lv_istore_n (lv' := [(1, .int 0), (0, .ref h)]) hx hb dX5_mirror_1 rfl hl (by decide) rfl (fun ls hl => ?_)
  have lp2 : ∀ (r2 k2 : Nat) (tr : Nat → Int32) (H : Heap) (locs : List Loc) (ls : Array Slot), r2 = n - k2 → k2 ≤ n + 1 → va_P D vwCl [(h, .inr (3, [.ref t, .int (nI n)])), (t, .inl (cI, 16, .inl tr))] H → va_D A [(h, .inr (3, [.ref t, .int (nI n)])), (t, .inl (cI, 16, .inl tr))] → va_S A s.heap H locs → lv_has ls 2 [(0, .ref h), (1, .int (nI k2))] → F_X5_mirror_2  r2 k2 tr = T → W p l e (headSpec wsX5_mirror rmX5_mirror).room s m ([.ref h] : List Value).toArray below meth c H locs 0 0 Q (F0 m 2 ls []) := by
    intro r2
    induction r2 with
    | zero =>
      intro k2 tr H locs ls hi2_0 hi2_1 hP hD hS hl hF
      rw [F_X5_mirror_2] at hF
      refine lv_iload_n hx hb dX5_mirror_2 rfl (lv_at hl 1 rfl) ?_
      refine lv_aload_n hx hb dX5_mirror_3 rfl (lv_at hl 0 rfl) ?_
      refine va_get (D := D) (ci := 3) (v := .int (nI n)) (C := RX5) (T := TX5) (N := 2) hx hb hts hinX5 hown hK.1 hP 0 rfl rfl 1 (by decide) hf13 (fun _ h9 => h9) rfl dX5_mirror_4 ?_
      refine lv_icmp_ge (tgt := 31) hx hb dX5_mirror_7 (by decide) (fun c7 => ?_) (fun c7 => ?_)
      · skip
        subst hF
        subst hQ
        exact W.vret hx hb hr (fun u9 ht hW => ⟨⟨(), rfl, trivial, by rw [← ht] at hP; exact hP⟩, hS.F ht⟩) hS.2.2 dX5_mirror_31
      · exact False.elim (c7 (nI_le (a := n) (b := k2) (by omega) (by omega)))
    | succ r2 ih2 =>
      intro k2 tr H locs ls hi2_0 hi2_1 hP hD hS hl hF
      rw [F_X5_mirror_2] at hF
      refine lv_iload_n hx hb dX5_mirror_2 rfl (lv_at hl 1 rfl) ?_
      refine lv_aload_n hx hb dX5_mirror_3 rfl (lv_at hl 0 rfl) ?_
      refine va_get (D := D) (ci := 3) (v := .int (nI n)) (C := RX5) (T := TX5) (N := 2) hx hb hts hinX5 hown hK.1 hP 0 rfl rfl 1 (by decide) hf13 (fun _ h9 => h9) rfl dX5_mirror_4 ?_
      refine lv_icmp_ge (tgt := 31) hx hb dX5_mirror_7 (by decide) (fun c7 => ?_) (fun c7 => ?_)
      · exact False.elim (nI_ge (a := k2) (b := n) (by omega) (by omega) c7)
      · skip
        refine lv_aload_n hx hb dX5_mirror_10 rfl (lv_at hl 0 rfl) ?_
        refine va_get (D := D) (ci := 3) (v := .ref t) (C := RX5) (T := TX5) (N := 2) hx hb hts hinX5 hown hK.1 hP 0 rfl rfl 0 (by decide) hf9 (fun _ h9 => h9) rfl dX5_mirror_11 ?_
        refine lv_iload_n hx hb dX5_mirror_14 rfl (lv_at hl 1 rfl) ?_
        refine lv_aload_n hx hb dX5_mirror_15 rfl (lv_at hl 0 rfl) ?_
        refine va_get (D := D) (ci := 3) (v := .ref t) (C := RX5) (T := TX5) (N := 2) hx hb hts hinX5 hown hK.1 hP 0 rfl rfl 0 (by decide) hf9 (fun _ h9 => h9) rfl dX5_mirror_16 ?_
        refine lv_iload_n hx hb dX5_mirror_19 rfl (lv_at hl 1 rfl) ?_
        refine w_ald hx hb hK hP 1 0 rfl rfl (k2) rfl (by omega) (by omega) dX5_mirror_20 ?_
        refine lv_ineg hx hb dX5_mirror_21 ?_
        refine lv_iconst (v := 3) hx hb dX5_mirror_22 (by decide) ?_
        refine lv_iand hx hb dX5_mirror_23 ?_
        refine w_ast hx hb hK hP hD hS 1 0 rfl rfl (k2) rfl (by omega) (by omega) dX5_mirror_24 (fun H locs hP hD hS => ?_)
        have hP : va_P D vwCl [(h, .inr (3, [.ref t, .int (nI n)])), (t, .inl (cI, 16, .inl (upd tr k2 ((-(tr k2)) &&& 3))))] H := hP
        have hD : va_D A [(h, .inr (3, [.ref t, .int (nI n)])), (t, .inl (cI, 16, .inl (upd tr k2 ((-(tr k2)) &&& 3))))] := hD
        refine lv_iinc (v := nI (k2 + 1)) (lv' := [(1, .int (nI (k2 + 1))), (0, .ref h)]) hx hb dX5_mirror_25 hl (k := 1) rfl (nI_1 _) (by decide) rfl (fun ls hl => ?_)
        refine lv_goto (tgt := 2) hx hb dX5_mirror_28 (by decide) ?_
        exact ih2 (k2 + 1) (upd tr k2 ((-(tr k2)) &&& 3)) H locs ls (by omega) (by omega) hP hD hS (lv_sub hl [1, 0] rfl) hF
  exact lp2 (n - 0) 0 tr s.heap _ ls rfl (by omega) hP hD hS (lv_sub hl [1, 0] rfl) hF
def F_X5_advance_2  : Nat → Nat → (Nat → Int32) → (Nat → Int32)
  | 0, k2, tr => tr
  | r2 + 1, k2, tr => F_X5_advance_2  r2 (k2 + 1) (upd tr k2 (((tr k2) + 1) &&& 3))
def fX5_advance (tr : Nat → Int32) (n : Nat) : (Nat → Int32) := F_X5_advance_2  (n - 0) 0 tr
abbrev rmX5_advance : Room := { frames := 0, cells := 0, slots := 0, locals := 0 }
set_option maxHeartbeats 4000000 in
set_option maxRecDepth 100000 in
theorem c_X5_advance (l : Launch) (D : va_G) (cI : ClassId) (sz : Nat) (h : Nat) (t : Nat) (tr : Nat → Int32) (n : Nat) (hn : n ≤ 16) : Met l yX5_advance wsX5_advance rmX5_advance (va_Pc [.ref h] (wrP D [(cI, .int)] [(h, .inr (3, [.ref t, .int (nI n)])), (t, .inl (cI, 16, .inl tr))] sz)) (va_Qv (fun (_ : Unit) => True) (fun _ u9 => va_P D vwCl [(h, .inr (3, [.ref t, .int (nI n)])), (t, .inl (cI, 16, .inl (fX5_advance tr n)))] u9.heap) (va_A [(h, .inr (3, [.ref t, .int (nI n)])), (t, .inl (cI, 16, .inl tr))] sz)) 0 0 (va_A [(h, .inr (3, [.ref t, .int (nI n)])), (t, .inl (cI, 16, .inl tr))] sz) := by
  generalize hF : fX5_advance tr n = T
  refine Met.ofW (cc := cX5_advance) (maxL := 2) (ret := none) (by decide) rfl ?_
  intro p e s m args below meth c s₁ B hml hv
  obtain ⟨rfl, hsz, hP, hK, hD0⟩ := hv
  have hx := B.exec
  have hb := B.bytes
  have hr := B.returns
  have hts := atoms_spec (ws := wsX5_advance) B.pre
  have hown : s.vm.findClass RX5 = some m.cls := findClass_of_methodNamed B.named
  have hlocks := B.notSynchronized
  have hinX5 : ∀ w ∈ u_ws RX5 TX5 2, w ∈ wsX5_advance := by decide +kernel
  have hf13 := hts (.fieldLink RX5 13 "PulseSigns$Sign" "length" "I") (by decide +kernel)
  have hf9 := hts (.fieldLink RX5 9 "PulseSigns$Sign" "turns" "[I") (by decide +kernel)
  subst hsz
  have hD := hD0.self (sz := s.heap.size)
  generalize hAe : va_A [(h, .inr (3, [.ref t, .int (nI n)])), (t, .inl (cI, 16, .inl tr))] s.heap.size = A at hD ⊢
  have hA : ∀ q : Nat, s.heap.size ≤ q → A q := fun q h => by rw [← hAe]; exact Or.inr h
  have hS : va_S A s.heap s.heap [] := va_S.rf
  have hP : va_P D vwCl [(h, .inr (3, [.ref t, .int (nI n)])), (t, .inl (cI, 16, .inl tr))] s.heap := hP
  have hl := lv_entry ([.ref h]) (n := 2) (Nat.le_of_ble_eq_true rfl)
  rw [lg_entry_eq]
  generalize (lg_sl ([.ref h]) ++ List.replicate (2 - (lg_sl ([.ref h])).length) Slot.unset).toArray = ls at hl ⊢
  refine w_Q (fun Q hQ => ?_)
  have hl : lv_has ls 2 [(0, .ref h)] := hl
  rw [fX5_advance] at hF
  refine lv_iconst (v := 0) hx hb dX5_advance_0 (by decide) ?_
  refine lv_istore_n (lv' := [(1, .int 0), (0, .ref h)]) hx hb dX5_advance_1 rfl hl (by decide) rfl (fun ls hl => ?_)
  have lp2 : ∀ (r2 k2 : Nat) (tr : Nat → Int32) (H : Heap) (locs : List Loc) (ls : Array Slot), r2 = n - k2 → k2 ≤ n + 1 → va_P D vwCl [(h, .inr (3, [.ref t, .int (nI n)])), (t, .inl (cI, 16, .inl tr))] H → va_D A [(h, .inr (3, [.ref t, .int (nI n)])), (t, .inl (cI, 16, .inl tr))] → va_S A s.heap H locs → lv_has ls 2 [(0, .ref h), (1, .int (nI k2))] → F_X5_advance_2  r2 k2 tr = T → W p l e (headSpec wsX5_advance rmX5_advance).room s m ([.ref h] : List Value).toArray below meth c H locs 0 0 Q (F0 m 2 ls []) := by
    intro r2
    induction r2 with
    | zero =>
      intro k2 tr H locs ls hi2_0 hi2_1 hP hD hS hl hF
      rw [F_X5_advance_2] at hF
      refine lv_iload_n hx hb dX5_advance_2 rfl (lv_at hl 1 rfl) ?_
      refine lv_aload_n hx hb dX5_advance_3 rfl (lv_at hl 0 rfl) ?_
      refine va_get (D := D) (ci := 3) (v := .int (nI n)) (C := RX5) (T := TX5) (N := 2) hx hb hts hinX5 hown hK.1 hP 0 rfl rfl 1 (by decide) hf13 (fun _ h9 => h9) rfl dX5_advance_4 ?_
      refine lv_icmp_ge (tgt := 32) hx hb dX5_advance_7 (by decide) (fun c7 => ?_) (fun c7 => ?_)
      · skip
        subst hF
        subst hQ
        exact W.vret hx hb hr (fun u9 ht hW => ⟨⟨(), rfl, trivial, by rw [← ht] at hP; exact hP⟩, hS.F ht⟩) hS.2.2 dX5_advance_32
      · exact False.elim (c7 (nI_le (a := n) (b := k2) (by omega) (by omega)))
    | succ r2 ih2 =>
      intro k2 tr H locs ls hi2_0 hi2_1 hP hD hS hl hF
      rw [F_X5_advance_2] at hF
      refine lv_iload_n hx hb dX5_advance_2 rfl (lv_at hl 1 rfl) ?_
      refine lv_aload_n hx hb dX5_advance_3 rfl (lv_at hl 0 rfl) ?_
      refine va_get (D := D) (ci := 3) (v := .int (nI n)) (C := RX5) (T := TX5) (N := 2) hx hb hts hinX5 hown hK.1 hP 0 rfl rfl 1 (by decide) hf13 (fun _ h9 => h9) rfl dX5_advance_4 ?_
      refine lv_icmp_ge (tgt := 32) hx hb dX5_advance_7 (by decide) (fun c7 => ?_) (fun c7 => ?_)
      · exact False.elim (nI_ge (a := k2) (b := n) (by omega) (by omega) c7)
      · skip
        refine lv_aload_n hx hb dX5_advance_10 rfl (lv_at hl 0 rfl) ?_
        refine va_get (D := D) (ci := 3) (v := .ref t) (C := RX5) (T := TX5) (N := 2) hx hb hts hinX5 hown hK.1 hP 0 rfl rfl 0 (by decide) hf9 (fun _ h9 => h9) rfl dX5_advance_11 ?_
        refine lv_iload_n hx hb dX5_advance_14 rfl (lv_at hl 1 rfl) ?_
        refine lv_aload_n hx hb dX5_advance_15 rfl (lv_at hl 0 rfl) ?_
        refine va_get (D := D) (ci := 3) (v := .ref t) (C := RX5) (T := TX5) (N := 2) hx hb hts hinX5 hown hK.1 hP 0 rfl rfl 0 (by decide) hf9 (fun _ h9 => h9) rfl dX5_advance_16 ?_
        refine lv_iload_n hx hb dX5_advance_19 rfl (lv_at hl 1 rfl) ?_
        refine w_ald hx hb hK hP 1 0 rfl rfl (k2) rfl (by omega) (by omega) dX5_advance_20 ?_
        refine lv_iconst (v := 1) hx hb dX5_advance_21 (by decide) ?_
        refine lv_iadd hx hb dX5_advance_22 ?_
        refine lv_iconst (v := 3) hx hb dX5_advance_23 (by decide) ?_
        refine lv_iand hx hb dX5_advance_24 ?_
        refine w_ast hx hb hK hP hD hS 1 0 rfl rfl (k2) rfl (by omega) (by omega) dX5_advance_25 (fun H locs hP hD hS => ?_)
        have hP : va_P D vwCl [(h, .inr (3, [.ref t, .int (nI n)])), (t, .inl (cI, 16, .inl (upd tr k2 (((tr k2) + 1) &&& 3))))] H := hP
        have hD : va_D A [(h, .inr (3, [.ref t, .int (nI n)])), (t, .inl (cI, 16, .inl (upd tr k2 (((tr k2) + 1) &&& 3))))] := hD
        refine lv_iinc (v := nI (k2 + 1)) (lv' := [(1, .int (nI (k2 + 1))), (0, .ref h)]) hx hb dX5_advance_26 hl (k := 1) rfl (nI_1 _) (by decide) rfl (fun ls hl => ?_)
        refine lv_goto (tgt := 2) hx hb dX5_advance_29 (by decide) ?_
        exact ih2 (k2 + 1) (upd tr k2 (((tr k2) + 1) &&& 3)) H locs ls (by omega) (by omega) hP hD hS (lv_sub hl [1, 0] rfl) hF
  exact lp2 (n - 0) 0 tr s.heap _ ls rfl (by omega) hP hD hS (lv_sub hl [1, 0] rfl) hF
def F_X5_takeBits_7 (b : Int32) (n2 : Nat) : Nat → Nat → (Nat → Int32) → (Nat × (Nat → Int32))
  | 0, k7, tr => (n2, tr)
  | r7 + 1, k7, tr => F_X5_takeBits_7 b n2 r7 (k7 + 1) (upd tr k7 (((b >>> ((((nI n2) - 1) - (nI k7)) &&& 31)) &&& 1) * 2))
def fX5_takeBits (tr : Nat → Int32) (b : Int32) (n2 : Nat) : Nat × (Nat → Int32) := F_X5_takeBits_7 b n2 (n2 - 0) 0 tr
abbrev rmX5_takeBits : Room := { frames := 0, cells := 0, slots := 0, locals := 0 }
set_option maxHeartbeats 4000000 in
set_option maxRecDepth 100000 in
theorem c_X5_takeBits (l : Launch) (D : va_G) (cI : ClassId) (sz : Nat) (h : Nat) (t : Nat) (tr : Nat → Int32) (n : Nat) (b : Int32) (n2 : Nat) (hn2 : n2 ≤ 16) : Met l yX5_takeBits wsX5_takeBits rmX5_takeBits (va_Pc [.ref h, .int b, .int (nI n2)] (wrP D [(cI, .int)] [(h, .inr (3, [.ref t, .int (nI n)])), (t, .inl (cI, 16, .inl tr))] sz)) (va_Qv (fun (_ : Unit) => True) (fun _ u9 => va_P D vwCl [(h, .inr (3, [.ref t, .int (nI ((fX5_takeBits tr b n2).1))])), (t, .inl (cI, 16, .inl ((fX5_takeBits tr b n2).2)))] u9.heap) (va_A [(h, .inr (3, [.ref t, .int (nI n)])), (t, .inl (cI, 16, .inl tr))] sz)) 0 0 (va_A [(h, .inr (3, [.ref t, .int (nI n)])), (t, .inl (cI, 16, .inl tr))] sz) := by
  generalize hF : fX5_takeBits tr b n2 = T
  refine Met.ofW (cc := cX5_takeBits) (maxL := 4) (ret := none) (by decide) rfl ?_
  intro p e s m args below meth c s₁ B hml hv
  obtain ⟨rfl, hsz, hP, hK, hD0⟩ := hv
  have hx := B.exec
  have hb := B.bytes
  have hr := B.returns
  have hts := atoms_spec (ws := wsX5_takeBits) B.pre
  have hown : s.vm.findClass RX5 = some m.cls := findClass_of_methodNamed B.named
  have hlocks := B.notSynchronized
  have hinX5 : ∀ w ∈ u_ws RX5 TX5 2, w ∈ wsX5_takeBits := by decide +kernel
  have hf13 := hts (.fieldLink RX5 13 "PulseSigns$Sign" "length" "I") (by decide +kernel)
  have hf9 := hts (.fieldLink RX5 9 "PulseSigns$Sign" "turns" "[I") (by decide +kernel)
  subst hsz
  have hD := hD0.self (sz := s.heap.size)
  generalize hAe : va_A [(h, .inr (3, [.ref t, .int (nI n)])), (t, .inl (cI, 16, .inl tr))] s.heap.size = A at hD ⊢
  have hA : ∀ q : Nat, s.heap.size ≤ q → A q := fun q h => by rw [← hAe]; exact Or.inr h
  have hS : va_S A s.heap s.heap [] := va_S.rf
  have hP : va_P D vwCl [(h, .inr (3, [.ref t, .int (nI n)])), (t, .inl (cI, 16, .inl tr))] s.heap := hP
  have hl := lv_entry ([.ref h, .int b, .int (nI n2)]) (n := 4) (Nat.le_of_ble_eq_true rfl)
  rw [lg_entry_eq]
  generalize (lg_sl ([.ref h, .int b, .int (nI n2)]) ++ List.replicate (4 - (lg_sl ([.ref h, .int b, .int (nI n2)])).length) Slot.unset).toArray = ls at hl ⊢
  refine w_Q (fun Q hQ => ?_)
  have hl : lv_has ls 4 [(0, .ref h), (1, .int b), (2, .int (nI n2))] := hl
  rw [fX5_takeBits] at hF
  refine lv_aload_n hx hb dX5_takeBits_0 rfl (lv_at hl 0 rfl) ?_
  refine lv_iload_n hx hb dX5_takeBits_1 rfl (lv_at hl 2 rfl) ?_
  refine va_put (D := D) (ci := 3) (v := .int (nI n2)) (ty := .int) (C := RX5) (T := TX5) (N := 2) hx hb hts hinX5 tyX5 tyX5_ok nmX5 hown hK.1 hP hD hS 0 rfl rfl 1 (by decide) hf13 (fun _ h9 => h9) rfl (by decide +kernel) rfl rfl (Nat.le_of_ble_eq_true rfl) dX5_takeBits_2 (fun H locs hP hD hS => ?_)
  have hP : va_P D vwCl [(h, .inr (3, [.ref t, .int (nI n2)])), (t, .inl (cI, 16, .inl tr))] H := hP
  have hD : va_D A [(h, .inr (3, [.ref t, .int (nI n2)])), (t, .inl (cI, 16, .inl tr))] := hD
  refine lv_iconst (v := 0) hx hb dX5_takeBits_5 (by decide) ?_
  refine lv_istore_n (lv' := [(3, .int 0), (0, .ref h), (1, .int b), (2, .int (nI n2))]) hx hb dX5_takeBits_6 rfl hl (by decide) rfl (fun ls hl => ?_)
  have lp7 : ∀ (r7 k7 : Nat) (tr : Nat → Int32) (H : Heap) (locs : List Loc) (ls : Array Slot), r7 = n2 - k7 → k7 ≤ n2 + 1 → va_P D vwCl [(h, .inr (3, [.ref t, .int (nI n2)])), (t, .inl (cI, 16, .inl tr))] H → va_D A [(h, .inr (3, [.ref t, .int (nI n2)])), (t, .inl (cI, 16, .inl tr))] → va_S A s.heap H locs → lv_has ls 4 [(0, .ref h), (1, .int b), (2, .int (nI n2)), (3, .int (nI k7))] → F_X5_takeBits_7 b n2 r7 k7 tr = T → W p l e (headSpec wsX5_takeBits rmX5_takeBits).room s m ([.ref h, .int b, .int (nI n2)] : List Value).toArray below meth c H locs 0 0 Q (F0 m 7 ls []) := by
    intro r7
    induction r7 with
    | zero =>
      intro k7 tr H locs ls hi7_0 hi7_1 hP hD hS hl hF
      rw [F_X5_takeBits_7] at hF
      refine lv_iload_n hx hb dX5_takeBits_7 rfl (lv_at hl 3 rfl) ?_
      refine lv_iload_n hx hb dX5_takeBits_8 rfl (lv_at hl 2 rfl) ?_
      refine lv_icmp_ge (tgt := 35) hx hb dX5_takeBits_9 (by decide) (fun c9 => ?_) (fun c9 => ?_)
      · skip
        subst hF
        subst hQ
        exact W.vret hx hb hr (fun u9 ht hW => ⟨⟨(), rfl, trivial, by rw [← ht] at hP; exact hP⟩, hS.F ht⟩) hS.2.2 dX5_takeBits_35
      · exact False.elim (c9 (nI_le (a := n2) (b := k7) (by omega) (by omega)))
    | succ r7 ih7 =>
      intro k7 tr H locs ls hi7_0 hi7_1 hP hD hS hl hF
      rw [F_X5_takeBits_7] at hF
      refine lv_iload_n hx hb dX5_takeBits_7 rfl (lv_at hl 3 rfl) ?_
      refine lv_iload_n hx hb dX5_takeBits_8 rfl (lv_at hl 2 rfl) ?_
      refine lv_icmp_ge (tgt := 35) hx hb dX5_takeBits_9 (by decide) (fun c9 => ?_) (fun c9 => ?_)
      · exact False.elim (nI_ge (a := k7) (b := n2) (by omega) (by omega) c9)
      · skip
        refine lv_aload_n hx hb dX5_takeBits_12 rfl (lv_at hl 0 rfl) ?_
        refine va_get (D := D) (ci := 3) (v := .ref t) (C := RX5) (T := TX5) (N := 2) hx hb hts hinX5 hown hK.1 hP 0 rfl rfl 0 (by decide) hf9 (fun _ h9 => h9) rfl dX5_takeBits_13 ?_
        refine lv_iload_n hx hb dX5_takeBits_16 rfl (lv_at hl 3 rfl) ?_
        refine lv_iload_n hx hb dX5_takeBits_17 rfl (lv_at hl 1 rfl) ?_
        refine lv_iload_n hx hb dX5_takeBits_18 rfl (lv_at hl 2 rfl) ?_
        refine lv_iconst (v := 1) hx hb dX5_takeBits_19 (by decide) ?_
        refine lv_isub hx hb dX5_takeBits_20 ?_
        refine lv_iload_n hx hb dX5_takeBits_21 rfl (lv_at hl 3 rfl) ?_
        refine lv_isub hx hb dX5_takeBits_22 ?_
        refine lv_ishr hx hb dX5_takeBits_23 ?_
        refine lv_iconst (v := 1) hx hb dX5_takeBits_24 (by decide) ?_
        refine lv_iand hx hb dX5_takeBits_25 ?_
        refine lv_iconst (v := 2) hx hb dX5_takeBits_26 (by decide) ?_
        refine lv_imul hx hb dX5_takeBits_27 ?_
        refine w_ast hx hb hK hP hD hS 1 0 rfl rfl (k7) rfl (by omega) (by omega) dX5_takeBits_28 (fun H locs hP hD hS => ?_)
        have hP : va_P D vwCl [(h, .inr (3, [.ref t, .int (nI n2)])), (t, .inl (cI, 16, .inl (upd tr k7 (((b >>> ((((nI n2) - 1) - (nI k7)) &&& 31)) &&& 1) * 2))))] H := hP
        have hD : va_D A [(h, .inr (3, [.ref t, .int (nI n2)])), (t, .inl (cI, 16, .inl (upd tr k7 (((b >>> ((((nI n2) - 1) - (nI k7)) &&& 31)) &&& 1) * 2))))] := hD
        refine lv_iinc (v := nI (k7 + 1)) (lv' := [(3, .int (nI (k7 + 1))), (0, .ref h), (1, .int b), (2, .int (nI n2))]) hx hb dX5_takeBits_29 hl (k := 3) rfl (nI_1 _) (by decide) rfl (fun ls hl => ?_)
        refine lv_goto (tgt := 7) hx hb dX5_takeBits_32 (by decide) ?_
        exact ih7 (k7 + 1) (upd tr k7 (((b >>> ((((nI n2) - 1) - (nI k7)) &&& 31)) &&& 1) * 2)) H locs ls (by omega) (by omega) hP hD hS (lv_sub hl [1, 2, 3, 0] rfl) hF
  exact lp7 (n2 - 0) 0 tr H _ ls rfl (by omega) hP hD hS (lv_sub hl [1, 2, 3, 0] rfl) hF
def F_X5_lookPart_6 (tr : Nat → Int32) (tr2 : Nat → Int32) (n2 : Nat) (lt : Int32) (sp : Int32) (pt : Int32) : Nat → Nat → Int32 → Int32
  | 0, k6, x5 => x5
  | r6 + 1, k6, x5 => (if (fX5_has n2 ((nI k6) + lt)) = 0 then F_X5_lookPart_6 tr tr2 n2 lt sp pt r6 (k6 + 1) x5 else F_X5_lookPart_6 tr tr2 n2 lt sp pt r6 (k6 + 1) (x5 + (fX6_partOfTurn (((tr k6) - (tr2 ((nI k6) + lt).toNatClampNeg)) + (sp * (nI k6))) pt)))
def fX5_lookPart (tr : Nat → Int32) (n : Nat) (tr2 : Nat → Int32) (n2 : Nat) (lt : Int32) (sp : Int32) (pt : Int32) : Int32 := F_X5_lookPart_6 tr tr2 n2 lt sp pt (n - 0) 0 0
abbrev rmX5_lookPart : Room := { frames := 2, cells := 0, slots := 0, locals := 43 }
set_option maxHeartbeats 4000000 in
set_option maxRecDepth 100000 in
theorem c_X5_lookPart (l : Launch) (D : va_G) (cI : ClassId) (h : Nat) (t : Nat) (tr : Nat → Int32) (n : Nat) (h2 : Nat) (t2 : Nat) (tr2 : Nat → Int32) (n2 : Nat) (lt : Int32) (sp : Int32) (pt : Int32) (hn : n ≤ 16) (hn2 : n2 ≤ 16) : Met l yX5_lookPart wsX5_lookPart rmX5_lookPart (va_Pc [.ref h, .ref h2, .int lt, .int sp, .int pt] (roP D [(cI, .int)] [(h, .inr (3, [.ref t, .int (nI n)])), (t, .inl (cI, 16, .inl tr)), (h2, .inr (3, [.ref t2, .int (nI n2)])), (t2, .inl (cI, 16, .inl tr2))])) (vp_Si (fun r9 => r9 = fX5_lookPart tr n tr2 n2 lt sp pt)) 0 0 (fun _ => False) := by
  generalize hF : fX5_lookPart tr n tr2 n2 lt sp pt = T
  refine Met.ofW (cc := cX5_lookPart) (maxL := 7) (ret := (some .int)) (by decide) rfl ?_
  intro p e s m args below meth c s₁ B hml hv
  obtain ⟨rfl, hP, hK⟩ := hv
  have hx := B.exec
  have hb := B.bytes
  have hr := B.returns
  have hts := atoms_spec (ws := wsX5_lookPart) B.pre
  have hown : s.vm.findClass RX5 = some m.cls := findClass_of_methodNamed B.named
  have hlocks := B.notSynchronized
  have hinX5 : ∀ w ∈ u_ws RX5 TX5 2, w ∈ wsX5_lookPart := by decide +kernel
  have hf13 := hts (.fieldLink RX5 13 "PulseSigns$Sign" "length" "I") (by decide +kernel)
  have hf9 := hts (.fieldLink RX5 9 "PulseSigns$Sign" "turns" "[I") (by decide +kernel)
  have hiniX6 := hts (.initialized RX6) (by decide +kernel)
  have hst_X6_partOfTurn := hts (.static yX6_partOfTurn) (by decide +kernel)
  have hl := lv_entry ([.ref h, .ref h2, .int lt, .int sp, .int pt]) (n := 7) (Nat.le_of_ble_eq_true rfl)
  rw [lg_entry_eq]
  generalize (lg_sl ([.ref h, .ref h2, .int lt, .int sp, .int pt]) ++ List.replicate (7 - (lg_sl ([.ref h, .ref h2, .int lt, .int sp, .int pt])).length) Slot.unset).toArray = ls at hl ⊢
  refine w_Q (fun Q hQ => ?_)
  have hl : lv_has ls 7 [(0, .ref h), (1, .ref h2), (2, .int lt), (3, .int sp), (4, .int pt)] := hl
  rw [fX5_lookPart] at hF
  refine lv_iconst (v := 0) hx hb dX5_lookPart_0 (by decide) ?_
  refine lv_istore (lv' := [(5, .int 0), (0, .ref h), (1, .ref h2), (2, .int lt), (3, .int sp), (4, .int pt)]) hx hb dX5_lookPart_1 hl (by decide) rfl (fun ls hl => ?_)
  refine lv_iconst (v := 0) hx hb dX5_lookPart_3 (by decide) ?_
  refine lv_istore (lv' := [(6, .int 0), (5, .int 0), (0, .ref h), (1, .ref h2), (2, .int lt), (3, .int sp), (4, .int pt)]) hx hb dX5_lookPart_4 hl (by decide) rfl (fun ls hl => ?_)
  have lp6 : ∀ (r6 k6 : Nat) (x5 : Int32) (ls : Array Slot), r6 = n - k6 → k6 ≤ n + 1 → lv_has ls 7 [(0, .ref h), (1, .ref h2), (2, .int lt), (3, .int sp), (4, .int pt), (5, .int x5), (6, .int (nI k6))] → F_X5_lookPart_6 tr tr2 n2 lt sp pt r6 k6 x5 = T → W p l e (headSpec wsX5_lookPart rmX5_lookPart).room s m ([.ref h, .ref h2, .int lt, .int sp, .int pt] : List Value).toArray below meth c s.heap [] 0 0 Q (F0 m 6 ls []) := by
    intro r6
    induction r6 with
    | zero =>
      intro k6 x5 ls hi6_0 hi6_1 hl hF
      rw [F_X5_lookPart_6] at hF
      refine lv_iload hx hb dX5_lookPart_6 (lv_at hl 6 rfl) ?_
      refine lv_aload_n hx hb dX5_lookPart_8 rfl (lv_at hl 0 rfl) ?_
      refine va_get (D := D) (ci := 3) (v := .int (nI n)) (C := RX5) (T := TX5) (N := 2) hx hb hts hinX5 hown hK.1 hP 0 rfl rfl 1 (by decide) hf13 (fun _ h9 => h9) rfl dX5_lookPart_9 ?_
      refine lv_icmp_ge (tgt := 64) hx hb dX5_lookPart_12 (by decide) (fun c12 => ?_) (fun c12 => ?_)
      · skip
        refine lv_iload hx hb dX5_lookPart_64 (lv_at hl 5 rfl) ?_
        subst hQ
        exact W.iret (v := x5) hx hb hr (fun u9 ht hW => ⟨_, rfl, hF, ht⟩) (fun q hq => by cases hq) dX5_lookPart_66
      · exact False.elim (c12 (nI_le (a := n) (b := k6) (by omega) (by omega)))
    | succ r6 ih6 =>
      intro k6 x5 ls hi6_0 hi6_1 hl hF
      rw [F_X5_lookPart_6] at hF
      refine lv_iload hx hb dX5_lookPart_6 (lv_at hl 6 rfl) ?_
      refine lv_aload_n hx hb dX5_lookPart_8 rfl (lv_at hl 0 rfl) ?_
      refine va_get (D := D) (ci := 3) (v := .int (nI n)) (C := RX5) (T := TX5) (N := 2) hx hb hts hinX5 hown hK.1 hP 0 rfl rfl 1 (by decide) hf13 (fun _ h9 => h9) rfl dX5_lookPart_9 ?_
      refine lv_icmp_ge (tgt := 64) hx hb dX5_lookPart_12 (by decide) (fun c12 => ?_) (fun c12 => ?_)
      · exact False.elim (nI_ge (a := k6) (b := n) (by omega) (by omega) c12)
      · skip
        refine lv_aload_n hx hb dX5_lookPart_15 rfl (lv_at hl 1 rfl) ?_
        refine lv_iload hx hb dX5_lookPart_16 (lv_at hl 6 rfl) ?_
        refine lv_iload_n hx hb dX5_lookPart_18 rfl (lv_at hl 2 rfl) ?_
        refine lv_iadd hx hb dX5_lookPart_19 ?_
        have hPc := hP.sub (ws' := [(h2, .inr (3, [.ref t2, .int (nI n2)])), (t2, .inl (cI, 16, .inl tr2))]) [2, 3] rfl
        refine cs_i (va_runV (As := [.int ((nI k6) + lt)]) (rest := []) ⟨hx, hb, hml, hown, hts⟩ (c_X5_has l D cI h2 t2 tr2 n2 ((nI k6) + lt) ) (cwV 1 hts gX5_lookPart_X5_has rfl rfl rfl (by decide +kernel) ⟨(Nat.le_of_ble_eq_true rfl), (Nat.le_of_ble_eq_true rfl)⟩) (ro_preV hPc hK rfl (q0 := 0) rfl) rfl rfl hl.1 rfl (lv_room (Nat.le_of_ble_eq_true rfl)) dX5_lookPart_20 ⟨Nat.zero_le _, Nat.zero_le _⟩) ?_
        refine lv_if_eq (tgt := 58) hx hb dX5_lookPart_23 (by decide) (fun c23 => ?_) (fun c23 => ?_)
        · rw [if_pos c23] at hF
          refine lv_iinc (v := nI (k6 + 1)) (lv' := [(6, .int (nI (k6 + 1))), (0, .ref h), (1, .ref h2), (2, .int lt), (3, .int sp), (4, .int pt), (5, .int x5)]) hx hb dX5_lookPart_58 hl (k := 6) rfl (nI_1 _) (by decide) rfl (fun ls hl => ?_)
          refine lv_goto (tgt := 6) hx hb dX5_lookPart_61 (by decide) ?_
          exact ih6 (k6 + 1) x5 ls (by omega) (by omega)  (lv_sub hl [1, 2, 3, 4, 5, 6, 0] rfl) hF
        · rw [if_neg c23] at hF
          refine lv_iload hx hb dX5_lookPart_26 (lv_at hl 5 rfl) ?_
          refine lv_aload_n hx hb dX5_lookPart_28 rfl (lv_at hl 0 rfl) ?_
          refine va_get (D := D) (ci := 3) (v := .ref t) (C := RX5) (T := TX5) (N := 2) hx hb hts hinX5 hown hK.1 hP 0 rfl rfl 0 (by decide) hf9 (fun _ h9 => h9) rfl dX5_lookPart_29 ?_
          refine lv_iload hx hb dX5_lookPart_32 (lv_at hl 6 rfl) ?_
          refine w_ald hx hb hK hP 1 0 rfl rfl (k6) rfl (by omega) (by omega) dX5_lookPart_34 ?_
          refine lv_aload_n hx hb dX5_lookPart_35 rfl (lv_at hl 1 rfl) ?_
          refine va_get (D := D) (ci := 3) (v := .ref t2) (C := RX5) (T := TX5) (N := 2) hx hb hts hinX5 hown hK.1 hP 2 rfl rfl 0 (by decide) hf9 (fun _ h9 => h9) rfl dX5_lookPart_36 ?_
          refine lv_iload hx hb dX5_lookPart_39 (lv_at hl 6 rfl) ?_
          refine lv_iload_n hx hb dX5_lookPart_41 rfl (lv_at hl 2 rfl) ?_
          refine lv_iadd hx hb dX5_lookPart_42 ?_
          refine va_iald hx hb hK.1 hP 3 0 rfl rfl (has_in c23 hn2) dX5_lookPart_43 ?_
          refine lv_isub hx hb dX5_lookPart_44 ?_
          refine lv_iload_n hx hb dX5_lookPart_45 rfl (lv_at hl 3 rfl) ?_
          refine lv_iload hx hb dX5_lookPart_46 (lv_at hl 6 rfl) ?_
          refine lv_imul hx hb dX5_lookPart_48 ?_
          refine lv_iadd hx hb dX5_lookPart_49 ?_
          refine lv_iload hx hb dX5_lookPart_50 (lv_at hl 4 rfl) ?_
          have hPc := hP.sub (ws' := []) [] rfl
          refine cs_i (va_runSN (As := [.int (((tr k6) - (tr2 ((nI k6) + lt).toNatClampNeg)) + (sp * (nI k6))), .int pt]) (rest := [.int x5]) ⟨hx, hb, hml, hown, hts⟩ (c_X6_partOfTurn l D cI (((tr k6) - (tr2 ((nI k6) + lt).toNatClampNeg)) + (sp * (nI k6))) pt ) ⟨va_cnB 2 hts gX5_lookPart_X6_partOfTurn_n27 rfl rfl rfl hK.2.2.2.2.1 hiniX6 (by decide +kernel) ⟨(Nat.le_of_ble_eq_true rfl), (Nat.le_of_ble_eq_true rfl)⟩, hst_X6_partOfTurn, trivial⟩ (ro_pre hPc hK) rfl rfl hl.1 rfl (lv_room (Nat.le_of_ble_eq_true rfl)) dX5_lookPart_52 ⟨Nat.zero_le _, Nat.zero_le _⟩) ?_
          refine lv_iadd hx hb dX5_lookPart_55 ?_
          refine lv_istore (lv' := [(5, .int (x5 + (fX6_partOfTurn (((tr k6) - (tr2 ((nI k6) + lt).toNatClampNeg)) + (sp * (nI k6))) pt))), (0, .ref h), (1, .ref h2), (2, .int lt), (3, .int sp), (4, .int pt), (6, .int (nI k6))]) hx hb dX5_lookPart_56 hl (by decide) rfl (fun ls hl => ?_)
          refine lv_iinc (v := nI (k6 + 1)) (lv' := [(6, .int (nI (k6 + 1))), (5, .int (x5 + (fX6_partOfTurn (((tr k6) - (tr2 ((nI k6) + lt).toNatClampNeg)) + (sp * (nI k6))) pt))), (0, .ref h), (1, .ref h2), (2, .int lt), (3, .int sp), (4, .int pt)]) hx hb dX5_lookPart_58 hl (k := 6) rfl (nI_1 _) (by decide) rfl (fun ls hl => ?_)
          refine lv_goto (tgt := 6) hx hb dX5_lookPart_61 (by decide) ?_
          exact ih6 (k6 + 1) (x5 + (fX6_partOfTurn (((tr k6) - (tr2 ((nI k6) + lt).toNatClampNeg)) + (sp * (nI k6))) pt)) ls (by omega) (by omega)  (lv_sub hl [2, 3, 4, 5, 6, 1, 0] rfl) hF
  exact lp6 (n - 0) 0 0 ls rfl (by omega)  (lv_sub hl [2, 3, 4, 5, 6, 1, 0] rfl) hF
def fX5_ownLookSize (tr : Nat → Int32) (n : Nat) (lt : Int32) (sp : Int32) : Int32 := ((fX5_lookPart tr n tr n lt sp 0) * (fX5_lookPart tr n tr n lt sp 0)) + ((fX5_lookPart tr n tr n lt sp 1) * (fX5_lookPart tr n tr n lt sp 1))
abbrev rmX5_ownLookSize : Room := { frames := 3, cells := 0, slots := 0, locals := 69 }
set_option maxHeartbeats 4000000 in
set_option maxRecDepth 100000 in
theorem c_X5_ownLookSize (l : Launch) (D : va_G) (cI : ClassId) (h : Nat) (t : Nat) (tr : Nat → Int32) (n : Nat) (lt : Int32) (sp : Int32) (hn : n ≤ 16) : Met l yX5_ownLookSize wsX5_ownLookSize rmX5_ownLookSize (va_Pc [.ref h, .int lt, .int sp] (roP D [(cI, .int)] [(h, .inr (3, [.ref t, .int (nI n)])), (t, .inl (cI, 16, .inl tr))])) (vp_Si (fun r9 => r9 = fX5_ownLookSize tr n lt sp)) 0 0 (fun _ => False) := by
  generalize hF : fX5_ownLookSize tr n lt sp = T
  refine Met.ofW (cc := cX5_ownLookSize) (maxL := 5) (ret := (some .int)) (by decide) rfl ?_
  intro p e s m args below meth c s₁ B hml hv
  obtain ⟨rfl, hP, hK⟩ := hv
  have hx := B.exec
  have hb := B.bytes
  have hr := B.returns
  have hts := atoms_spec (ws := wsX5_ownLookSize) B.pre
  have hown : s.vm.findClass RX5 = some m.cls := findClass_of_methodNamed B.named
  have hlocks := B.notSynchronized
  have hl := lv_entry ([.ref h, .int lt, .int sp]) (n := 5) (Nat.le_of_ble_eq_true rfl)
  rw [lg_entry_eq]
  generalize (lg_sl ([.ref h, .int lt, .int sp]) ++ List.replicate (5 - (lg_sl ([.ref h, .int lt, .int sp])).length) Slot.unset).toArray = ls at hl ⊢
  refine w_Q (fun Q hQ => ?_)
  have hl : lv_has ls 5 [(0, .ref h), (1, .int lt), (2, .int sp)] := hl
  rw [fX5_ownLookSize] at hF
  refine lv_aload_n hx hb dX5_ownLookSize_0 rfl (lv_at hl 0 rfl) ?_
  refine lv_aload_n hx hb dX5_ownLookSize_1 rfl (lv_at hl 0 rfl) ?_
  refine lv_iload_n hx hb dX5_ownLookSize_2 rfl (lv_at hl 1 rfl) ?_
  refine lv_iload_n hx hb dX5_ownLookSize_3 rfl (lv_at hl 2 rfl) ?_
  refine lv_iconst (v := 0) hx hb dX5_ownLookSize_4 (by decide) ?_
  have hPc := hP.sub (ws' := [(h, .inr (3, [.ref t, .int (nI n)])), (t, .inl (cI, 16, .inl tr)), (h, .inr (3, [.ref t, .int (nI n)])), (t, .inl (cI, 16, .inl tr))]) [0, 1, 0, 1] rfl
  refine cs_i (va_runV (As := [.ref h, .int lt, .int sp, .int 0]) (rest := []) ⟨hx, hb, hml, hown, hts⟩ (c_X5_lookPart l D cI h t tr n h t tr n lt sp 0 (by first | assumption | omega) (by first | assumption | omega)) (cwV 4 hts gX5_ownLookSize_X5_lookPart rfl rfl rfl (by decide +kernel) ⟨(Nat.le_of_ble_eq_true rfl), (Nat.le_of_ble_eq_true rfl)⟩) (ro_preV hPc hK rfl (q0 := 0) rfl) rfl rfl hl.1 rfl (lv_room (Nat.le_of_ble_eq_true rfl)) dX5_ownLookSize_5 ⟨Nat.zero_le _, Nat.zero_le _⟩) ?_
  refine lv_istore_n (lv' := [(3, .int (fX5_lookPart tr n tr n lt sp 0)), (0, .ref h), (1, .int lt), (2, .int sp)]) hx hb dX5_ownLookSize_8 rfl hl (by decide) rfl (fun ls hl => ?_)
  refine lv_aload_n hx hb dX5_ownLookSize_9 rfl (lv_at hl 1 rfl) ?_
  refine lv_aload_n hx hb dX5_ownLookSize_10 rfl (lv_at hl 1 rfl) ?_
  refine lv_iload_n hx hb dX5_ownLookSize_11 rfl (lv_at hl 2 rfl) ?_
  refine lv_iload_n hx hb dX5_ownLookSize_12 rfl (lv_at hl 3 rfl) ?_
  refine lv_iconst (v := 1) hx hb dX5_ownLookSize_13 (by decide) ?_
  have hPc := hP.sub (ws' := [(h, .inr (3, [.ref t, .int (nI n)])), (t, .inl (cI, 16, .inl tr)), (h, .inr (3, [.ref t, .int (nI n)])), (t, .inl (cI, 16, .inl tr))]) [0, 1, 0, 1] rfl
  refine cs_i (va_runV (As := [.ref h, .int lt, .int sp, .int 1]) (rest := []) ⟨hx, hb, hml, hown, hts⟩ (c_X5_lookPart l D cI h t tr n h t tr n lt sp 1 (by first | assumption | omega) (by first | assumption | omega)) (cwV 4 hts gX5_ownLookSize_X5_lookPart rfl rfl rfl (by decide +kernel) ⟨(Nat.le_of_ble_eq_true rfl), (Nat.le_of_ble_eq_true rfl)⟩) (ro_preV hPc hK rfl (q0 := 0) rfl) rfl rfl hl.1 rfl (lv_room (Nat.le_of_ble_eq_true rfl)) dX5_ownLookSize_14 ⟨Nat.zero_le _, Nat.zero_le _⟩) ?_
  refine lv_istore (lv' := [(4, .int (fX5_lookPart tr n tr n lt sp 1)), (3, .int (fX5_lookPart tr n tr n lt sp 0)), (0, .ref h), (1, .int lt), (2, .int sp)]) hx hb dX5_ownLookSize_17 hl (by decide) rfl (fun ls hl => ?_)
  refine lv_iload_n hx hb dX5_ownLookSize_19 rfl (lv_at hl 1 rfl) ?_
  refine lv_iload_n hx hb dX5_ownLookSize_20 rfl (lv_at hl 1 rfl) ?_
  refine lv_imul hx hb dX5_ownLookSize_21 ?_
  refine lv_iload hx hb dX5_ownLookSize_22 (lv_at hl 0 rfl) ?_
  refine lv_iload hx hb dX5_ownLookSize_24 (lv_at hl 0 rfl) ?_
  refine lv_imul hx hb dX5_ownLookSize_26 ?_
  refine lv_iadd hx hb dX5_ownLookSize_27 ?_
  subst hQ
  exact W.iret (v := ((fX5_lookPart tr n tr n lt sp 0) * (fX5_lookPart tr n tr n lt sp 0)) + ((fX5_lookPart tr n tr n lt sp 1) * (fX5_lookPart tr n tr n lt sp 1))) hx hb hr (fun u9 ht hW => ⟨_, rfl, hF, ht⟩) (fun q hq => by cases hq) dX5_ownLookSize_28
def F_X5_greatestSide_4 (tr : Nat → Int32) (n : Nat) : Nat → Nat → Int32 → Int32
  | 0, k4, x1 => x1
  | r4 + 1, k4, x1 => F_X5_greatestSide_4 tr n r4 (k4 + 1) (if x1 < (fX5_ownLookSize tr n (nI k4) 0) then fX5_ownLookSize tr n (nI k4) 0 else x1)
def fX5_greatestSide (tr : Nat → Int32) (n : Nat) : Int32 := F_X5_greatestSide_4 tr n (n - 1) 1 0
abbrev rmX5_greatestSide : Room := { frames := 4, cells := 0, slots := 0, locals := 93 }
set_option maxHeartbeats 4000000 in
set_option maxRecDepth 100000 in
theorem c_X5_greatestSide (l : Launch) (D : va_G) (cI : ClassId) (h : Nat) (t : Nat) (tr : Nat → Int32) (n : Nat) (hn : n ≤ 16) : Met l yX5_greatestSide wsX5_greatestSide rmX5_greatestSide (va_Pc [.ref h] (roP D [(cI, .int)] [(h, .inr (3, [.ref t, .int (nI n)])), (t, .inl (cI, 16, .inl tr))])) (vp_Si (fun r9 => r9 = fX5_greatestSide tr n)) 0 0 (fun _ => False) := by
  generalize hF : fX5_greatestSide tr n = T
  refine Met.ofW (cc := cX5_greatestSide) (maxL := 3) (ret := (some .int)) (by decide) rfl ?_
  intro p e s m args below meth c s₁ B hml hv
  obtain ⟨rfl, hP, hK⟩ := hv
  have hx := B.exec
  have hb := B.bytes
  have hr := B.returns
  have hts := atoms_spec (ws := wsX5_greatestSide) B.pre
  have hown : s.vm.findClass RX5 = some m.cls := findClass_of_methodNamed B.named
  have hlocks := B.notSynchronized
  have hinX5 : ∀ w ∈ u_ws RX5 TX5 2, w ∈ wsX5_greatestSide := by decide +kernel
  have hf13 := hts (.fieldLink RX5 13 "PulseSigns$Sign" "length" "I") (by decide +kernel)
  have hml38 := hts (.methodLink RX5 38 Lib.Math.max.name) (by decide +kernel)
  have hst38 := hts (.static Lib.Math.max.name) (by decide +kernel)
  have hiM := hts (.initialized "java/lang/Math") (by decide +kernel)
  have hcd38 := hts (.code Lib.Math.max.name Lib.Math.max.code 2 (some .int)) (by decide +kernel)
  have hl := lv_entry ([.ref h]) (n := 3) (Nat.le_of_ble_eq_true rfl)
  rw [lg_entry_eq]
  generalize (lg_sl ([.ref h]) ++ List.replicate (3 - (lg_sl ([.ref h])).length) Slot.unset).toArray = ls at hl ⊢
  refine w_Q (fun Q hQ => ?_)
  have hl : lv_has ls 3 [(0, .ref h)] := hl
  rw [fX5_greatestSide] at hF
  refine lv_iconst (v := 0) hx hb dX5_greatestSide_0 (by decide) ?_
  refine lv_istore_n (lv' := [(1, .int 0), (0, .ref h)]) hx hb dX5_greatestSide_1 rfl hl (by decide) rfl (fun ls hl => ?_)
  refine lv_iconst (v := 1) hx hb dX5_greatestSide_2 (by decide) ?_
  refine lv_istore_n (lv' := [(2, .int 1), (1, .int 0), (0, .ref h)]) hx hb dX5_greatestSide_3 rfl hl (by decide) rfl (fun ls hl => ?_)
  have lp4 : ∀ (r4 k4 : Nat) (x1 : Int32) (ls : Array Slot), r4 = n - k4 → k4 ≤ n + 1 → lv_has ls 3 [(0, .ref h), (1, .int x1), (2, .int (nI k4))] → F_X5_greatestSide_4 tr n r4 k4 x1 = T → W p l e (headSpec wsX5_greatestSide rmX5_greatestSide).room s m ([.ref h] : List Value).toArray below meth c s.heap [] 0 0 Q (F0 m 4 ls []) := by
    intro r4
    induction r4 with
    | zero =>
      intro k4 x1 ls hi4_0 hi4_1 hl hF
      rw [F_X5_greatestSide_4] at hF
      refine lv_iload_n hx hb dX5_greatestSide_4 rfl (lv_at hl 2 rfl) ?_
      refine lv_aload_n hx hb dX5_greatestSide_5 rfl (lv_at hl 0 rfl) ?_
      refine va_get (D := D) (ci := 3) (v := .int (nI n)) (C := RX5) (T := TX5) (N := 2) hx hb hts hinX5 hown hK.1 hP 0 rfl rfl 1 (by decide) hf13 (fun _ h9 => h9) rfl dX5_greatestSide_6 ?_
      refine lv_icmp_ge (tgt := 29) hx hb dX5_greatestSide_9 (by decide) (fun c9 => ?_) (fun c9 => ?_)
      · skip
        refine lv_iload_n hx hb dX5_greatestSide_29 rfl (lv_at hl 1 rfl) ?_
        subst hQ
        exact W.iret (v := x1) hx hb hr (fun u9 ht hW => ⟨_, rfl, hF, ht⟩) (fun q hq => by cases hq) dX5_greatestSide_30
      · exact False.elim (c9 (nI_le (a := n) (b := k4) (by omega) (by omega)))
    | succ r4 ih4 =>
      intro k4 x1 ls hi4_0 hi4_1 hl hF
      rw [F_X5_greatestSide_4] at hF
      refine lv_iload_n hx hb dX5_greatestSide_4 rfl (lv_at hl 2 rfl) ?_
      refine lv_aload_n hx hb dX5_greatestSide_5 rfl (lv_at hl 0 rfl) ?_
      refine va_get (D := D) (ci := 3) (v := .int (nI n)) (C := RX5) (T := TX5) (N := 2) hx hb hts hinX5 hown hK.1 hP 0 rfl rfl 1 (by decide) hf13 (fun _ h9 => h9) rfl dX5_greatestSide_6 ?_
      refine lv_icmp_ge (tgt := 29) hx hb dX5_greatestSide_9 (by decide) (fun c9 => ?_) (fun c9 => ?_)
      · exact False.elim (nI_ge (a := k4) (b := n) (by omega) (by omega) c9)
      · skip
        refine lv_iload_n hx hb dX5_greatestSide_12 rfl (lv_at hl 1 rfl) ?_
        refine lv_aload_n hx hb dX5_greatestSide_13 rfl (lv_at hl 0 rfl) ?_
        refine lv_iload_n hx hb dX5_greatestSide_14 rfl (lv_at hl 2 rfl) ?_
        refine lv_iconst (v := 0) hx hb dX5_greatestSide_15 (by decide) ?_
        refine cs_i (va_runV (As := [.int (nI k4), .int 0]) (rest := [.int x1]) ⟨hx, hb, hml, hown, hts⟩ (c_X5_ownLookSize l D cI h t tr n (nI k4) 0 (by first | assumption | omega)) (cwV 2 hts gX5_greatestSide_X5_ownLookSize rfl rfl rfl (by decide +kernel) ⟨(Nat.le_of_ble_eq_true rfl), (Nat.le_of_ble_eq_true rfl)⟩) (ro_preV hP hK rfl (q0 := 0) rfl) rfl rfl hl.1 rfl (lv_room (Nat.le_of_ble_eq_true rfl)) dX5_greatestSide_16 ⟨Nat.zero_le _, Nat.zero_le _⟩) ?_
        refine va_mmax hx hb (by rw [hml]; exact hl.1.symm) hown hml38 hst38 hiM hcd38 (Nat.le_of_ble_eq_true rfl) (Nat.le_of_ble_eq_true rfl) (Nat.zero_le _) (Nat.zero_le _) dX5_greatestSide_19 ?_
        refine lv_istore_n (lv' := [(1, .int (if x1 < (fX5_ownLookSize tr n (nI k4) 0) then fX5_ownLookSize tr n (nI k4) 0 else x1)), (0, .ref h), (2, .int (nI k4))]) hx hb dX5_greatestSide_22 rfl hl (by decide) rfl (fun ls hl => ?_)
        refine lv_iinc (v := nI (k4 + 1)) (lv' := [(2, .int (nI (k4 + 1))), (1, .int (if x1 < (fX5_ownLookSize tr n (nI k4) 0) then fX5_ownLookSize tr n (nI k4) 0 else x1)), (0, .ref h)]) hx hb dX5_greatestSide_23 hl (k := 2) rfl (nI_1 _) (by decide) rfl (fun ls hl => ?_)
        refine lv_goto (tgt := 4) hx hb dX5_greatestSide_26 (by decide) ?_
        exact ih4 (k4 + 1) (if x1 < (fX5_ownLookSize tr n (nI k4) 0) then fX5_ownLookSize tr n (nI k4) 0 else x1) ls (by omega) (by omega)  (lv_sub hl [2, 1, 0] rfl) hF
  exact lp4 (n - 1) 1 0 ls rfl (by omega)  (lv_sub hl [2, 1, 0] rfl) hF
def F_X5_sumOfSides_4 (tr : Nat → Int32) (n : Nat) : Nat → Nat → Int32 → Int32
  | 0, k4, x1 => x1
  | r4 + 1, k4, x1 => F_X5_sumOfSides_4 tr n r4 (k4 + 1) (x1 + (fX5_ownLookSize tr n (nI k4) 0))
def fX5_sumOfSides (tr : Nat → Int32) (n : Nat) : Int32 := F_X5_sumOfSides_4 tr n (n - 1) 1 0
abbrev rmX5_sumOfSides : Room := { frames := 4, cells := 0, slots := 0, locals := 93 }
set_option maxHeartbeats 4000000 in
set_option maxRecDepth 100000 in
theorem c_X5_sumOfSides (l : Launch) (D : va_G) (cI : ClassId) (h : Nat) (t : Nat) (tr : Nat → Int32) (n : Nat) (hn : n ≤ 16) : Met l yX5_sumOfSides wsX5_sumOfSides rmX5_sumOfSides (va_Pc [.ref h] (roP D [(cI, .int)] [(h, .inr (3, [.ref t, .int (nI n)])), (t, .inl (cI, 16, .inl tr))])) (vp_Si (fun r9 => r9 = fX5_sumOfSides tr n)) 0 0 (fun _ => False) := by
  generalize hF : fX5_sumOfSides tr n = T
  refine Met.ofW (cc := cX5_sumOfSides) (maxL := 3) (ret := (some .int)) (by decide) rfl ?_
  intro p e s m args below meth c s₁ B hml hv
  obtain ⟨rfl, hP, hK⟩ := hv
  have hx := B.exec
  have hb := B.bytes
  have hr := B.returns
  have hts := atoms_spec (ws := wsX5_sumOfSides) B.pre
  have hown : s.vm.findClass RX5 = some m.cls := findClass_of_methodNamed B.named
  have hlocks := B.notSynchronized
  have hinX5 : ∀ w ∈ u_ws RX5 TX5 2, w ∈ wsX5_sumOfSides := by decide +kernel
  have hf13 := hts (.fieldLink RX5 13 "PulseSigns$Sign" "length" "I") (by decide +kernel)
  have hl := lv_entry ([.ref h]) (n := 3) (Nat.le_of_ble_eq_true rfl)
  rw [lg_entry_eq]
  generalize (lg_sl ([.ref h]) ++ List.replicate (3 - (lg_sl ([.ref h])).length) Slot.unset).toArray = ls at hl ⊢
  refine w_Q (fun Q hQ => ?_)
  have hl : lv_has ls 3 [(0, .ref h)] := hl
  rw [fX5_sumOfSides] at hF
  refine lv_iconst (v := 0) hx hb dX5_sumOfSides_0 (by decide) ?_
  refine lv_istore_n (lv' := [(1, .int 0), (0, .ref h)]) hx hb dX5_sumOfSides_1 rfl hl (by decide) rfl (fun ls hl => ?_)
  refine lv_iconst (v := 1) hx hb dX5_sumOfSides_2 (by decide) ?_
  refine lv_istore_n (lv' := [(2, .int 1), (1, .int 0), (0, .ref h)]) hx hb dX5_sumOfSides_3 rfl hl (by decide) rfl (fun ls hl => ?_)
  have lp4 : ∀ (r4 k4 : Nat) (x1 : Int32) (ls : Array Slot), r4 = n - k4 → k4 ≤ n + 1 → lv_has ls 3 [(0, .ref h), (1, .int x1), (2, .int (nI k4))] → F_X5_sumOfSides_4 tr n r4 k4 x1 = T → W p l e (headSpec wsX5_sumOfSides rmX5_sumOfSides).room s m ([.ref h] : List Value).toArray below meth c s.heap [] 0 0 Q (F0 m 4 ls []) := by
    intro r4
    induction r4 with
    | zero =>
      intro k4 x1 ls hi4_0 hi4_1 hl hF
      rw [F_X5_sumOfSides_4] at hF
      refine lv_iload_n hx hb dX5_sumOfSides_4 rfl (lv_at hl 2 rfl) ?_
      refine lv_aload_n hx hb dX5_sumOfSides_5 rfl (lv_at hl 0 rfl) ?_
      refine va_get (D := D) (ci := 3) (v := .int (nI n)) (C := RX5) (T := TX5) (N := 2) hx hb hts hinX5 hown hK.1 hP 0 rfl rfl 1 (by decide) hf13 (fun _ h9 => h9) rfl dX5_sumOfSides_6 ?_
      refine lv_icmp_ge (tgt := 27) hx hb dX5_sumOfSides_9 (by decide) (fun c9 => ?_) (fun c9 => ?_)
      · skip
        refine lv_iload_n hx hb dX5_sumOfSides_27 rfl (lv_at hl 1 rfl) ?_
        subst hQ
        exact W.iret (v := x1) hx hb hr (fun u9 ht hW => ⟨_, rfl, hF, ht⟩) (fun q hq => by cases hq) dX5_sumOfSides_28
      · exact False.elim (c9 (nI_le (a := n) (b := k4) (by omega) (by omega)))
    | succ r4 ih4 =>
      intro k4 x1 ls hi4_0 hi4_1 hl hF
      rw [F_X5_sumOfSides_4] at hF
      refine lv_iload_n hx hb dX5_sumOfSides_4 rfl (lv_at hl 2 rfl) ?_
      refine lv_aload_n hx hb dX5_sumOfSides_5 rfl (lv_at hl 0 rfl) ?_
      refine va_get (D := D) (ci := 3) (v := .int (nI n)) (C := RX5) (T := TX5) (N := 2) hx hb hts hinX5 hown hK.1 hP 0 rfl rfl 1 (by decide) hf13 (fun _ h9 => h9) rfl dX5_sumOfSides_6 ?_
      refine lv_icmp_ge (tgt := 27) hx hb dX5_sumOfSides_9 (by decide) (fun c9 => ?_) (fun c9 => ?_)
      · exact False.elim (nI_ge (a := k4) (b := n) (by omega) (by omega) c9)
      · skip
        refine lv_iload_n hx hb dX5_sumOfSides_12 rfl (lv_at hl 1 rfl) ?_
        refine lv_aload_n hx hb dX5_sumOfSides_13 rfl (lv_at hl 0 rfl) ?_
        refine lv_iload_n hx hb dX5_sumOfSides_14 rfl (lv_at hl 2 rfl) ?_
        refine lv_iconst (v := 0) hx hb dX5_sumOfSides_15 (by decide) ?_
        refine cs_i (va_runV (As := [.int (nI k4), .int 0]) (rest := [.int x1]) ⟨hx, hb, hml, hown, hts⟩ (c_X5_ownLookSize l D cI h t tr n (nI k4) 0 (by first | assumption | omega)) (cwV 2 hts gX5_sumOfSides_X5_ownLookSize rfl rfl rfl (by decide +kernel) ⟨(Nat.le_of_ble_eq_true rfl), (Nat.le_of_ble_eq_true rfl)⟩) (ro_preV hP hK rfl (q0 := 0) rfl) rfl rfl hl.1 rfl (lv_room (Nat.le_of_ble_eq_true rfl)) dX5_sumOfSides_16 ⟨Nat.zero_le _, Nat.zero_le _⟩) ?_
        refine lv_iadd hx hb dX5_sumOfSides_19 ?_
        refine lv_istore_n (lv' := [(1, .int (x1 + (fX5_ownLookSize tr n (nI k4) 0))), (0, .ref h), (2, .int (nI k4))]) hx hb dX5_sumOfSides_20 rfl hl (by decide) rfl (fun ls hl => ?_)
        refine lv_iinc (v := nI (k4 + 1)) (lv' := [(2, .int (nI (k4 + 1))), (1, .int (x1 + (fX5_ownLookSize tr n (nI k4) 0))), (0, .ref h)]) hx hb dX5_sumOfSides_21 hl (k := 2) rfl (nI_1 _) (by decide) rfl (fun ls hl => ?_)
        refine lv_goto (tgt := 4) hx hb dX5_sumOfSides_24 (by decide) ?_
        exact ih4 (k4 + 1) (x1 + (fX5_ownLookSize tr n (nI k4) 0)) ls (by omega) (by omega)  (lv_sub hl [2, 1, 0] rfl) hF
  exact lp4 (n - 1) 1 0 ls rfl (by omega)  (lv_sub hl [2, 1, 0] rfl) hF
def F_X5_greatestOwnLook_13 (tr : Nat → Int32) (n : Nat) (k5 : Nat) (K5 : (Int32) → Int32) : Nat → Nat → Int32 → Int32
  | 0, k13, x1 => K5 x1
  | r13 + 1, k13, x1 => (if (nI k5 - 15) = 0 then (if (nI k13) = 0 then F_X5_greatestOwnLook_13 tr n k5 K5 r13 (k13 + 1) x1 else F_X5_greatestOwnLook_13 tr n k5 K5 r13 (k13 + 1) (if x1 < (fX5_ownLookSize tr n (nI k5 - 15) (nI k13)) then fX5_ownLookSize tr n (nI k5 - 15) (nI k13) else x1)) else F_X5_greatestOwnLook_13 tr n k5 K5 r13 (k13 + 1) (if x1 < (fX5_ownLookSize tr n (nI k5 - 15) (nI k13)) then fX5_ownLookSize tr n (nI k5 - 15) (nI k13) else x1))
def F_X5_greatestOwnLook_5 (tr : Nat → Int32) (n : Nat) : Nat → Nat → Int32 → Int32
  | 0, k5, x1 => x1
  | r5 + 1, k5, x1 => F_X5_greatestOwnLook_13 tr n k5 (fun z13_0 => F_X5_greatestOwnLook_5 tr n r5 (k5 + 1) z13_0) ((3 + 1) - 0) 0 x1
def fX5_greatestOwnLook (tr : Nat → Int32) (n : Nat) : Int32 := F_X5_greatestOwnLook_5 tr n (31 - 0) 0 0
abbrev rmX5_greatestOwnLook : Room := { frames := 4, cells := 0, slots := 0, locals := 93 }
set_option maxHeartbeats 4000000 in
set_option maxRecDepth 100000 in
theorem c_X5_greatestOwnLook (l : Launch) (D : va_G) (cI : ClassId) (h : Nat) (t : Nat) (tr : Nat → Int32) (n : Nat) (hn : n ≤ 16) : Met l yX5_greatestOwnLook wsX5_greatestOwnLook rmX5_greatestOwnLook (va_Pc [.ref h] (roP D [(cI, .int)] [(h, .inr (3, [.ref t, .int (nI n)])), (t, .inl (cI, 16, .inl tr))])) (vp_Si (fun r9 => r9 = fX5_greatestOwnLook tr n)) 0 0 (fun _ => False) := by
  generalize hF : fX5_greatestOwnLook tr n = T
  refine Met.ofW (cc := cX5_greatestOwnLook) (maxL := 4) (ret := (some .int)) (by decide) rfl ?_
  intro p e s m args below meth c s₁ B hml hv
  obtain ⟨rfl, hP, hK⟩ := hv
  have hx := B.exec
  have hb := B.bytes
  have hr := B.returns
  have hts := atoms_spec (ws := wsX5_greatestOwnLook) B.pre
  have hown : s.vm.findClass RX5 = some m.cls := findClass_of_methodNamed B.named
  have hlocks := B.notSynchronized
  have hml38 := hts (.methodLink RX5 38 Lib.Math.max.name) (by decide +kernel)
  have hst38 := hts (.static Lib.Math.max.name) (by decide +kernel)
  have hiM := hts (.initialized "java/lang/Math") (by decide +kernel)
  have hcd38 := hts (.code Lib.Math.max.name Lib.Math.max.code 2 (some .int)) (by decide +kernel)
  have hl := lv_entry ([.ref h]) (n := 4) (Nat.le_of_ble_eq_true rfl)
  rw [lg_entry_eq]
  generalize (lg_sl ([.ref h]) ++ List.replicate (4 - (lg_sl ([.ref h])).length) Slot.unset).toArray = ls at hl ⊢
  refine w_Q (fun Q hQ => ?_)
  have hl : lv_has ls 4 [(0, .ref h)] := hl
  rw [fX5_greatestOwnLook] at hF
  refine lv_iconst (v := 0) hx hb dX5_greatestOwnLook_0 (by decide) ?_
  refine lv_istore_n (lv' := [(1, .int 0), (0, .ref h)]) hx hb dX5_greatestOwnLook_1 rfl hl (by decide) rfl (fun ls hl => ?_)
  refine lv_bipush (v := (-15)) hx hb dX5_greatestOwnLook_2 (by decide) ?_
  refine lv_istore_n (lv' := [(2, .int (-15)), (1, .int 0), (0, .ref h)]) hx hb dX5_greatestOwnLook_4 rfl hl (by decide) rfl (fun ls hl => ?_)
  have lp5 : ∀ (r5 k5 : Nat) (x1 : Int32) (ls : Array Slot), r5 = 31 - k5 → k5 ≤ 31 + 1 → lv_has ls 4 [(0, .ref h), (1, .int x1), (2, .int (nI k5 - 15))] → F_X5_greatestOwnLook_5 tr n r5 k5 x1 = T → W p l e (headSpec wsX5_greatestOwnLook rmX5_greatestOwnLook).room s m ([.ref h] : List Value).toArray below meth c s.heap [] 0 0 Q (F0 m 5 ls []) := by
    intro r5
    induction r5 with
    | zero =>
      intro k5 x1 ls hi5_0 hi5_1 hl hF
      rw [F_X5_greatestOwnLook_5] at hF
      refine lv_iload_n hx hb dX5_greatestOwnLook_5 rfl (lv_at hl 2 rfl) ?_
      refine lv_bipush (v := 15) hx hb dX5_greatestOwnLook_6 (by decide) ?_
      refine lv_icmp_gt (tgt := 49) hx hb dX5_greatestOwnLook_8 (by decide) (fun c8 => ?_) (fun c8 => ?_)
      · skip
        refine lv_iload_n hx hb dX5_greatestOwnLook_49 rfl (lv_at hl 1 rfl) ?_
        subst hQ
        exact W.iret (v := x1) hx hb hr (fun u9 ht hW => ⟨_, rfl, hF, ht⟩) (fun q hq => by cases hq) dX5_greatestOwnLook_50
      · exact False.elim (c8 (late_out (by omega) (by omega)))
    | succ r5 ih5 =>
      intro k5 x1 ls hi5_0 hi5_1 hl hF
      rw [F_X5_greatestOwnLook_5] at hF
      refine lv_iload_n hx hb dX5_greatestOwnLook_5 rfl (lv_at hl 2 rfl) ?_
      refine lv_bipush (v := 15) hx hb dX5_greatestOwnLook_6 (by decide) ?_
      refine lv_icmp_gt (tgt := 49) hx hb dX5_greatestOwnLook_8 (by decide) (fun c8 => ?_) (fun c8 => ?_)
      · exact False.elim (late_in (by omega) c8)
      · skip
        refine lv_iconst (v := 0) hx hb dX5_greatestOwnLook_11 (by decide) ?_
        refine lv_istore_n (lv' := [(3, .int 0), (0, .ref h), (1, .int x1), (2, .int (nI k5 - 15))]) hx hb dX5_greatestOwnLook_12 rfl hl (by decide) rfl (fun ls hl => ?_)
        have lp13 : ∀ (r13 k13 : Nat) (x1 : Int32) (ls : Array Slot), r13 = (3 + 1) - k13 → k13 ≤ (3 + 1) + 1 → lv_has ls 4 [(0, .ref h), (1, .int x1), (2, .int (nI k5 - 15)), (3, .int (nI k13))] → F_X5_greatestOwnLook_13 tr n k5 (fun z13_0 => F_X5_greatestOwnLook_5 tr n r5 (k5 + 1) z13_0) r13 k13 x1 = T → W p l e (headSpec wsX5_greatestOwnLook rmX5_greatestOwnLook).room s m ([.ref h] : List Value).toArray below meth c s.heap [] 0 0 Q (F0 m 13 ls []) := by
          intro r13
          induction r13 with
          | zero =>
            intro k13 x1 ls hi13_0 hi13_1 hl hF
            rw [F_X5_greatestOwnLook_13] at hF
            refine lv_iload_n hx hb dX5_greatestOwnLook_13 rfl (lv_at hl 3 rfl) ?_
            refine lv_iconst (v := 3) hx hb dX5_greatestOwnLook_14 (by decide) ?_
            refine lv_icmp_gt (tgt := 43) hx hb dX5_greatestOwnLook_15 (by decide) (fun c15 => ?_) (fun c15 => ?_)
            · skip
              refine lv_iinc (v := nI (k5 + 1) - 15) (lv' := [(2, .int (nI (k5 + 1) - 15)), (0, .ref h), (1, .int x1), (3, .int (nI k13))]) hx hb dX5_greatestOwnLook_43 hl (k := 2) rfl (late_inc _) (by decide) rfl (fun ls hl => ?_)
              refine lv_goto (tgt := 5) hx hb dX5_greatestOwnLook_46 (by decide) ?_
              exact ih5 (k5 + 1) x1 ls (by omega) (by omega)  (lv_sub hl [1, 2, 0] rfl) hF
            · exact False.elim (c15 (nI_lt (a := 3) (b := k13) (by omega) (by omega)))
          | succ r13 ih13 =>
            intro k13 x1 ls hi13_0 hi13_1 hl hF
            rw [F_X5_greatestOwnLook_13] at hF
            refine lv_iload_n hx hb dX5_greatestOwnLook_13 rfl (lv_at hl 3 rfl) ?_
            refine lv_iconst (v := 3) hx hb dX5_greatestOwnLook_14 (by decide) ?_
            refine lv_icmp_gt (tgt := 43) hx hb dX5_greatestOwnLook_15 (by decide) (fun c15 => ?_) (fun c15 => ?_)
            · exact False.elim (nI_nlt (a := 3) (b := k13) (by omega) (by omega) c15)
            · skip
              refine lv_iload_n hx hb dX5_greatestOwnLook_18 rfl (lv_at hl 2 rfl) ?_
              refine lv_if_ne (tgt := 26) hx hb dX5_greatestOwnLook_19 (by decide) (fun c19 => ?_) (fun c19 => ?_)
              · rw [if_neg c19] at hF
                refine lv_iload_n hx hb dX5_greatestOwnLook_26 rfl (lv_at hl 1 rfl) ?_
                refine lv_aload_n hx hb dX5_greatestOwnLook_27 rfl (lv_at hl 0 rfl) ?_
                refine lv_iload_n hx hb dX5_greatestOwnLook_28 rfl (lv_at hl 2 rfl) ?_
                refine lv_iload_n hx hb dX5_greatestOwnLook_29 rfl (lv_at hl 3 rfl) ?_
                refine cs_i (va_runV (As := [.int (nI k5 - 15), .int (nI k13)]) (rest := [.int x1]) ⟨hx, hb, hml, hown, hts⟩ (c_X5_ownLookSize l D cI h t tr n (nI k5 - 15) (nI k13) (by first | assumption | omega)) (cwV 2 hts gX5_greatestOwnLook_X5_ownLookSize rfl rfl rfl (by decide +kernel) ⟨(Nat.le_of_ble_eq_true rfl), (Nat.le_of_ble_eq_true rfl)⟩) (ro_preV hP hK rfl (q0 := 0) rfl) rfl rfl hl.1 rfl (lv_room (Nat.le_of_ble_eq_true rfl)) dX5_greatestOwnLook_30 ⟨Nat.zero_le _, Nat.zero_le _⟩) ?_
                refine va_mmax hx hb (by rw [hml]; exact hl.1.symm) hown hml38 hst38 hiM hcd38 (Nat.le_of_ble_eq_true rfl) (Nat.le_of_ble_eq_true rfl) (Nat.zero_le _) (Nat.zero_le _) dX5_greatestOwnLook_33 ?_
                refine lv_istore_n (lv' := [(1, .int (if x1 < (fX5_ownLookSize tr n (nI k5 - 15) (nI k13)) then fX5_ownLookSize tr n (nI k5 - 15) (nI k13) else x1)), (0, .ref h), (2, .int (nI k5 - 15)), (3, .int (nI k13))]) hx hb dX5_greatestOwnLook_36 rfl hl (by decide) rfl (fun ls hl => ?_)
                refine lv_iinc (v := nI (k13 + 1)) (lv' := [(3, .int (nI (k13 + 1))), (1, .int (if x1 < (fX5_ownLookSize tr n (nI k5 - 15) (nI k13)) then fX5_ownLookSize tr n (nI k5 - 15) (nI k13) else x1)), (0, .ref h), (2, .int (nI k5 - 15))]) hx hb dX5_greatestOwnLook_37 hl (k := 3) rfl (nI_1 _) (by decide) rfl (fun ls hl => ?_)
                refine lv_goto (tgt := 13) hx hb dX5_greatestOwnLook_40 (by decide) ?_
                exact ih13 (k13 + 1) (if x1 < (fX5_ownLookSize tr n (nI k5 - 15) (nI k13)) then fX5_ownLookSize tr n (nI k5 - 15) (nI k13) else x1) ls (by omega) (by omega)  (lv_sub hl [2, 1, 3, 0] rfl) hF
              · rw [if_pos c19] at hF
                refine lv_iload_n hx hb dX5_greatestOwnLook_22 rfl (lv_at hl 3 rfl) ?_
                refine lv_if_eq (tgt := 37) hx hb dX5_greatestOwnLook_23 (by decide) (fun c23 => ?_) (fun c23 => ?_)
                · rw [if_pos c23] at hF
                  refine lv_iinc (v := nI (k13 + 1)) (lv' := [(3, .int (nI (k13 + 1))), (0, .ref h), (1, .int x1), (2, .int (nI k5 - 15))]) hx hb dX5_greatestOwnLook_37 hl (k := 3) rfl (nI_1 _) (by decide) rfl (fun ls hl => ?_)
                  refine lv_goto (tgt := 13) hx hb dX5_greatestOwnLook_40 (by decide) ?_
                  exact ih13 (k13 + 1) x1 ls (by omega) (by omega)  (lv_sub hl [1, 2, 3, 0] rfl) hF
                · rw [if_neg c23] at hF
                  refine lv_iload_n hx hb dX5_greatestOwnLook_26 rfl (lv_at hl 1 rfl) ?_
                  refine lv_aload_n hx hb dX5_greatestOwnLook_27 rfl (lv_at hl 0 rfl) ?_
                  refine lv_iload_n hx hb dX5_greatestOwnLook_28 rfl (lv_at hl 2 rfl) ?_
                  refine lv_iload_n hx hb dX5_greatestOwnLook_29 rfl (lv_at hl 3 rfl) ?_
                  refine cs_i (va_runV (As := [.int (nI k5 - 15), .int (nI k13)]) (rest := [.int x1]) ⟨hx, hb, hml, hown, hts⟩ (c_X5_ownLookSize l D cI h t tr n (nI k5 - 15) (nI k13) (by first | assumption | omega)) (cwV 2 hts gX5_greatestOwnLook_X5_ownLookSize rfl rfl rfl (by decide +kernel) ⟨(Nat.le_of_ble_eq_true rfl), (Nat.le_of_ble_eq_true rfl)⟩) (ro_preV hP hK rfl (q0 := 0) rfl) rfl rfl hl.1 rfl (lv_room (Nat.le_of_ble_eq_true rfl)) dX5_greatestOwnLook_30 ⟨Nat.zero_le _, Nat.zero_le _⟩) ?_
                  refine va_mmax hx hb (by rw [hml]; exact hl.1.symm) hown hml38 hst38 hiM hcd38 (Nat.le_of_ble_eq_true rfl) (Nat.le_of_ble_eq_true rfl) (Nat.zero_le _) (Nat.zero_le _) dX5_greatestOwnLook_33 ?_
                  refine lv_istore_n (lv' := [(1, .int (if x1 < (fX5_ownLookSize tr n (nI k5 - 15) (nI k13)) then fX5_ownLookSize tr n (nI k5 - 15) (nI k13) else x1)), (0, .ref h), (2, .int (nI k5 - 15)), (3, .int (nI k13))]) hx hb dX5_greatestOwnLook_36 rfl hl (by decide) rfl (fun ls hl => ?_)
                  refine lv_iinc (v := nI (k13 + 1)) (lv' := [(3, .int (nI (k13 + 1))), (1, .int (if x1 < (fX5_ownLookSize tr n (nI k5 - 15) (nI k13)) then fX5_ownLookSize tr n (nI k5 - 15) (nI k13) else x1)), (0, .ref h), (2, .int (nI k5 - 15))]) hx hb dX5_greatestOwnLook_37 hl (k := 3) rfl (nI_1 _) (by decide) rfl (fun ls hl => ?_)
                  refine lv_goto (tgt := 13) hx hb dX5_greatestOwnLook_40 (by decide) ?_
                  exact ih13 (k13 + 1) (if x1 < (fX5_ownLookSize tr n (nI k5 - 15) (nI k13)) then fX5_ownLookSize tr n (nI k5 - 15) (nI k13) else x1) ls (by omega) (by omega)  (lv_sub hl [2, 1, 3, 0] rfl) hF
        exact lp13 ((3 + 1) - 0) 0 x1 ls rfl (by omega)  (lv_sub hl [1, 2, 3, 0] rfl) hF
  exact lp5 (31 - 0) 0 0 ls rfl (by omega)  (lv_sub hl [2, 1, 0] rfl) hF
def F_X5_sidesGoOutWith_25 (tr : Nat → Int32) (n : Nat) (tr2 : Nat → Int32) (n2 : Nat) (k15 : Nat) (K15 : Unit → Int32) : Nat → Nat → Int32
  | 0, k25 => K15 ()
  | r25 + 1, k25 => (if ((fX5_lookPart tr n tr n (nI k15) 0 (nI k25)) + (fX5_lookPart tr2 n2 tr2 n2 (nI k15) 0 (nI k25))) = 0 then F_X5_sidesGoOutWith_25 tr n tr2 n2 k15 K15 r25 (k25 + 1)  else 0)
def F_X5_sidesGoOutWith_15 (tr : Nat → Int32) (n : Nat) (tr2 : Nat → Int32) (n2 : Nat) : Nat → Nat → Int32
  | 0, k15 => 1
  | r15 + 1, k15 => F_X5_sidesGoOutWith_25 tr n tr2 n2 k15 (fun _ => F_X5_sidesGoOutWith_15 tr n tr2 n2 r15 (k15 + 1) ) ((1 + 1) - 0) 0 
def fX5_sidesGoOutWith (tr : Nat → Int32) (n : Nat) (tr2 : Nat → Int32) (n2 : Nat) : Int32 := (if (nI n) = (nI n2) then F_X5_sidesGoOutWith_15 tr n tr2 n2 (n - 1) 1  else 0)
abbrev rmX5_sidesGoOutWith : Room := { frames := 3, cells := 0, slots := 0, locals := 69 }
set_option maxHeartbeats 4000000 in
set_option maxRecDepth 100000 in
theorem c_X5_sidesGoOutWith (l : Launch) (D : va_G) (cI : ClassId) (h : Nat) (t : Nat) (tr : Nat → Int32) (n : Nat) (h2 : Nat) (t2 : Nat) (tr2 : Nat → Int32) (n2 : Nat) (hn : n ≤ 16) (hn2 : n2 ≤ 16) : Met l yX5_sidesGoOutWith wsX5_sidesGoOutWith rmX5_sidesGoOutWith (va_Pc [.ref h, .ref h2] (roP D [(cI, .int)] [(h, .inr (3, [.ref t, .int (nI n)])), (t, .inl (cI, 16, .inl tr)), (h2, .inr (3, [.ref t2, .int (nI n2)])), (t2, .inl (cI, 16, .inl tr2))])) (vp_Si (fun r9 => r9 = fX5_sidesGoOutWith tr n tr2 n2)) 0 0 (fun _ => False) := by
  generalize hF : fX5_sidesGoOutWith tr n tr2 n2 = T
  refine Met.ofW (cc := cX5_sidesGoOutWith) (maxL := 4) (ret := (some .boolean)) (by decide) rfl ?_
  intro p e s m args below meth c s₁ B hml hv
  obtain ⟨rfl, hP, hK⟩ := hv
  have hx := B.exec
  have hb := B.bytes
  have hr := B.returns
  have hts := atoms_spec (ws := wsX5_sidesGoOutWith) B.pre
  have hown : s.vm.findClass RX5 = some m.cls := findClass_of_methodNamed B.named
  have hlocks := B.notSynchronized
  have hinX5 : ∀ w ∈ u_ws RX5 TX5 2, w ∈ wsX5_sidesGoOutWith := by decide +kernel
  have hf13 := hts (.fieldLink RX5 13 "PulseSigns$Sign" "length" "I") (by decide +kernel)
  have hl := lv_entry ([.ref h, .ref h2]) (n := 4) (Nat.le_of_ble_eq_true rfl)
  rw [lg_entry_eq]
  generalize (lg_sl ([.ref h, .ref h2]) ++ List.replicate (4 - (lg_sl ([.ref h, .ref h2])).length) Slot.unset).toArray = ls at hl ⊢
  refine w_Q (fun Q hQ => ?_)
  have hl : lv_has ls 4 [(0, .ref h), (1, .ref h2)] := hl
  rw [fX5_sidesGoOutWith] at hF
  refine lv_aload_n hx hb dX5_sidesGoOutWith_0 rfl (lv_at hl 0 rfl) ?_
  refine va_get (D := D) (ci := 3) (v := .int (nI n)) (C := RX5) (T := TX5) (N := 2) hx hb hts hinX5 hown hK.1 hP 0 rfl rfl 1 (by decide) hf13 (fun _ h9 => h9) rfl dX5_sidesGoOutWith_1 ?_
  refine lv_aload_n hx hb dX5_sidesGoOutWith_4 rfl (lv_at hl 1 rfl) ?_
  refine va_get (D := D) (ci := 3) (v := .int (nI n2)) (C := RX5) (T := TX5) (N := 2) hx hb hts hinX5 hown hK.1 hP 2 rfl rfl 1 (by decide) hf13 (fun _ h9 => h9) rfl dX5_sidesGoOutWith_5 ?_
  refine lv_icmp_eq (tgt := 13) hx hb dX5_sidesGoOutWith_8 (by decide) (fun c8 => ?_) (fun c8 => ?_)
  · rw [if_pos c8] at hF
    refine lv_iconst (v := 1) hx hb dX5_sidesGoOutWith_13 (by decide) ?_
    refine lv_istore_n (lv' := [(2, .int 1), (0, .ref h), (1, .ref h2)]) hx hb dX5_sidesGoOutWith_14 rfl hl (by decide) rfl (fun ls hl => ?_)
    have lp15 : ∀ (r15 k15 : Nat)  (ls : Array Slot), r15 = n - k15 → k15 ≤ n + 1 → lv_has ls 4 [(0, .ref h), (1, .ref h2), (2, .int (nI k15))] → F_X5_sidesGoOutWith_15 tr n tr2 n2 r15 k15  = T → W p l e (headSpec wsX5_sidesGoOutWith rmX5_sidesGoOutWith).room s m ([.ref h, .ref h2] : List Value).toArray below meth c s.heap [] 0 0 Q (F0 m 15 ls []) := by
      intro r15
      induction r15 with
      | zero =>
        intro k15  ls hi15_0 hi15_1 hl hF
        rw [F_X5_sidesGoOutWith_15] at hF
        refine lv_iload_n hx hb dX5_sidesGoOutWith_15 rfl (lv_at hl 2 rfl) ?_
        refine lv_aload_n hx hb dX5_sidesGoOutWith_16 rfl (lv_at hl 0 rfl) ?_
        refine va_get (D := D) (ci := 3) (v := .int (nI n)) (C := RX5) (T := TX5) (N := 2) hx hb hts hinX5 hown hK.1 hP 0 rfl rfl 1 (by decide) hf13 (fun _ h9 => h9) rfl dX5_sidesGoOutWith_17 ?_
        refine lv_icmp_ge (tgt := 64) hx hb dX5_sidesGoOutWith_20 (by decide) (fun c20 => ?_) (fun c20 => ?_)
        · skip
          refine lv_iconst (v := 1) hx hb dX5_sidesGoOutWith_64 (by decide) ?_
          subst hQ
          exact W.zret (v := 1) (ty := .boolean) hx hb hr rfl (fun u9 ht hW => ⟨_, rfl, hF, ht⟩) (fun q hq => by cases hq) dX5_sidesGoOutWith_65
        · exact False.elim (c20 (nI_le (a := n) (b := k15) (by omega) (by omega)))
      | succ r15 ih15 =>
        intro k15  ls hi15_0 hi15_1 hl hF
        rw [F_X5_sidesGoOutWith_15] at hF
        refine lv_iload_n hx hb dX5_sidesGoOutWith_15 rfl (lv_at hl 2 rfl) ?_
        refine lv_aload_n hx hb dX5_sidesGoOutWith_16 rfl (lv_at hl 0 rfl) ?_
        refine va_get (D := D) (ci := 3) (v := .int (nI n)) (C := RX5) (T := TX5) (N := 2) hx hb hts hinX5 hown hK.1 hP 0 rfl rfl 1 (by decide) hf13 (fun _ h9 => h9) rfl dX5_sidesGoOutWith_17 ?_
        refine lv_icmp_ge (tgt := 64) hx hb dX5_sidesGoOutWith_20 (by decide) (fun c20 => ?_) (fun c20 => ?_)
        · exact False.elim (nI_ge (a := k15) (b := n) (by omega) (by omega) c20)
        · skip
          refine lv_iconst (v := 0) hx hb dX5_sidesGoOutWith_23 (by decide) ?_
          refine lv_istore_n (lv' := [(3, .int 0), (0, .ref h), (1, .ref h2), (2, .int (nI k15))]) hx hb dX5_sidesGoOutWith_24 rfl hl (by decide) rfl (fun ls hl => ?_)
          have lp25 : ∀ (r25 k25 : Nat)  (ls : Array Slot), r25 = (1 + 1) - k25 → k25 ≤ (1 + 1) + 1 → lv_has ls 4 [(0, .ref h), (1, .ref h2), (2, .int (nI k15)), (3, .int (nI k25))] → F_X5_sidesGoOutWith_25 tr n tr2 n2 k15 (fun _ => F_X5_sidesGoOutWith_15 tr n tr2 n2 r15 (k15 + 1) ) r25 k25  = T → W p l e (headSpec wsX5_sidesGoOutWith rmX5_sidesGoOutWith).room s m ([.ref h, .ref h2] : List Value).toArray below meth c s.heap [] 0 0 Q (F0 m 25 ls []) := by
            intro r25
            induction r25 with
            | zero =>
              intro k25  ls hi25_0 hi25_1 hl hF
              rw [F_X5_sidesGoOutWith_25] at hF
              refine lv_iload_n hx hb dX5_sidesGoOutWith_25 rfl (lv_at hl 3 rfl) ?_
              refine lv_iconst (v := 1) hx hb dX5_sidesGoOutWith_26 (by decide) ?_
              refine lv_icmp_gt (tgt := 58) hx hb dX5_sidesGoOutWith_27 (by decide) (fun c27 => ?_) (fun c27 => ?_)
              · skip
                refine lv_iinc (v := nI (k15 + 1)) (lv' := [(2, .int (nI (k15 + 1))), (0, .ref h), (1, .ref h2), (3, .int (nI k25))]) hx hb dX5_sidesGoOutWith_58 hl (k := 2) rfl (nI_1 _) (by decide) rfl (fun ls hl => ?_)
                refine lv_goto (tgt := 15) hx hb dX5_sidesGoOutWith_61 (by decide) ?_
                exact ih15 (k15 + 1)  ls (by omega) (by omega)  (lv_sub hl [1, 2, 0] rfl) hF
              · exact False.elim (c27 (nI_lt (a := 1) (b := k25) (by omega) (by omega)))
            | succ r25 ih25 =>
              intro k25  ls hi25_0 hi25_1 hl hF
              rw [F_X5_sidesGoOutWith_25] at hF
              refine lv_iload_n hx hb dX5_sidesGoOutWith_25 rfl (lv_at hl 3 rfl) ?_
              refine lv_iconst (v := 1) hx hb dX5_sidesGoOutWith_26 (by decide) ?_
              refine lv_icmp_gt (tgt := 58) hx hb dX5_sidesGoOutWith_27 (by decide) (fun c27 => ?_) (fun c27 => ?_)
              · exact False.elim (nI_nlt (a := 1) (b := k25) (by omega) (by omega) c27)
              · skip
                refine lv_aload_n hx hb dX5_sidesGoOutWith_30 rfl (lv_at hl 0 rfl) ?_
                refine lv_aload_n hx hb dX5_sidesGoOutWith_31 rfl (lv_at hl 0 rfl) ?_
                refine lv_iload_n hx hb dX5_sidesGoOutWith_32 rfl (lv_at hl 2 rfl) ?_
                refine lv_iconst (v := 0) hx hb dX5_sidesGoOutWith_33 (by decide) ?_
                refine lv_iload_n hx hb dX5_sidesGoOutWith_34 rfl (lv_at hl 3 rfl) ?_
                have hPc := hP.sub (ws' := [(h, .inr (3, [.ref t, .int (nI n)])), (t, .inl (cI, 16, .inl tr)), (h, .inr (3, [.ref t, .int (nI n)])), (t, .inl (cI, 16, .inl tr))]) [0, 1, 0, 1] rfl
                refine cs_i (va_runV (As := [.ref h, .int (nI k15), .int 0, .int (nI k25)]) (rest := []) ⟨hx, hb, hml, hown, hts⟩ (c_X5_lookPart l D cI h t tr n h t tr n (nI k15) 0 (nI k25) (by first | assumption | omega) (by first | assumption | omega)) (cwV 4 hts gX5_sidesGoOutWith_X5_lookPart rfl rfl rfl (by decide +kernel) ⟨(Nat.le_of_ble_eq_true rfl), (Nat.le_of_ble_eq_true rfl)⟩) (ro_preV hPc hK rfl (q0 := 0) rfl) rfl rfl hl.1 rfl (lv_room (Nat.le_of_ble_eq_true rfl)) dX5_sidesGoOutWith_35 ⟨Nat.zero_le _, Nat.zero_le _⟩) ?_
                refine lv_aload_n hx hb dX5_sidesGoOutWith_38 rfl (lv_at hl 1 rfl) ?_
                refine lv_aload_n hx hb dX5_sidesGoOutWith_39 rfl (lv_at hl 1 rfl) ?_
                refine lv_iload_n hx hb dX5_sidesGoOutWith_40 rfl (lv_at hl 2 rfl) ?_
                refine lv_iconst (v := 0) hx hb dX5_sidesGoOutWith_41 (by decide) ?_
                refine lv_iload_n hx hb dX5_sidesGoOutWith_42 rfl (lv_at hl 3 rfl) ?_
                have hPc := hP.sub (ws' := [(h2, .inr (3, [.ref t2, .int (nI n2)])), (t2, .inl (cI, 16, .inl tr2)), (h2, .inr (3, [.ref t2, .int (nI n2)])), (t2, .inl (cI, 16, .inl tr2))]) [2, 3, 2, 3] rfl
                refine cs_i (va_runV (As := [.ref h2, .int (nI k15), .int 0, .int (nI k25)]) (rest := [.int (fX5_lookPart tr n tr n (nI k15) 0 (nI k25))]) ⟨hx, hb, hml, hown, hts⟩ (c_X5_lookPart l D cI h2 t2 tr2 n2 h2 t2 tr2 n2 (nI k15) 0 (nI k25) (by first | assumption | omega) (by first | assumption | omega)) (cwV 4 hts gX5_sidesGoOutWith_X5_lookPart rfl rfl rfl (by decide +kernel) ⟨(Nat.le_of_ble_eq_true rfl), (Nat.le_of_ble_eq_true rfl)⟩) (ro_preV hPc hK rfl (q0 := 0) rfl) rfl rfl hl.1 rfl (lv_room (Nat.le_of_ble_eq_true rfl)) dX5_sidesGoOutWith_43 ⟨Nat.zero_le _, Nat.zero_le _⟩) ?_
                refine lv_iadd hx hb dX5_sidesGoOutWith_46 ?_
                refine lv_if_eq (tgt := 52) hx hb dX5_sidesGoOutWith_47 (by decide) (fun c47 => ?_) (fun c47 => ?_)
                · rw [if_pos c47] at hF
                  refine lv_iinc (v := nI (k25 + 1)) (lv' := [(3, .int (nI (k25 + 1))), (0, .ref h), (1, .ref h2), (2, .int (nI k15))]) hx hb dX5_sidesGoOutWith_52 hl (k := 3) rfl (nI_1 _) (by decide) rfl (fun ls hl => ?_)
                  refine lv_goto (tgt := 25) hx hb dX5_sidesGoOutWith_55 (by decide) ?_
                  exact ih25 (k25 + 1)  ls (by omega) (by omega)  (lv_sub hl [1, 2, 3, 0] rfl) hF
                · rw [if_neg c47] at hF
                  refine lv_iconst (v := 0) hx hb dX5_sidesGoOutWith_50 (by decide) ?_
                  subst hQ
                  exact W.zret (v := 0) (ty := .boolean) hx hb hr rfl (fun u9 ht hW => ⟨_, rfl, hF, ht⟩) (fun q hq => by cases hq) dX5_sidesGoOutWith_51
          exact lp25 ((1 + 1) - 0) 0  ls rfl (by omega)  (lv_sub hl [1, 2, 3, 0] rfl) hF
    exact lp15 (n - 1) 1  ls rfl (by omega)  (lv_sub hl [1, 2, 0] rfl) hF
  · rw [if_neg c8] at hF
    refine lv_iconst (v := 0) hx hb dX5_sidesGoOutWith_11 (by decide) ?_
    subst hQ
    exact W.zret (v := 0) (ty := .boolean) hx hb hr rfl (fun u9 ht hW => ⟨_, rfl, hF, ht⟩) (fun q hq => by cases hq) dX5_sidesGoOutWith_12
end
section
theorem shl1_tab : ∀ n : Fin 13, 1 ≤ n.val → (1 : Int32) <<< ((nI n.val - 1) &&& 31) = nI (2 ^ (n.val - 1)) := by decide
theorem shl1 {n : Nat} (h1 : 1 ≤ n) (h : n ≤ 12) : (1 : Int32) <<< ((nI n - 1) &&& 31) = nI (2 ^ (n - 1)) := shl1_tab ⟨n, by omega⟩ h1
theorem lg_ne {x : Int64} (h : ¬ lg_cmp x 0 = 0) : ¬ x = 0 := by
  intro e
  subst e
  exact h rfl
def fJ6_bitCount_0f7a4 (v : Int32) : Int32 := (((((((v - (((v.toUInt32 >>> ((1 : Int32).toUInt32 &&& Int32.toUInt32 31)).toInt32) &&& 1431655765)) &&& 858993459) + ((((v - (((v.toUInt32 >>> ((1 : Int32).toUInt32 &&& Int32.toUInt32 31)).toInt32) &&& 1431655765)).toUInt32 >>> ((2 : Int32).toUInt32 &&& Int32.toUInt32 31)).toInt32) &&& 858993459)) + (((((v - (((v.toUInt32 >>> ((1 : Int32).toUInt32 &&& Int32.toUInt32 31)).toInt32) &&& 1431655765)) &&& 858993459) + ((((v - (((v.toUInt32 >>> ((1 : Int32).toUInt32 &&& Int32.toUInt32 31)).toInt32) &&& 1431655765)).toUInt32 >>> ((2 : Int32).toUInt32 &&& Int32.toUInt32 31)).toInt32) &&& 858993459)).toUInt32 >>> ((4 : Int32).toUInt32 &&& Int32.toUInt32 31)).toInt32)) &&& 252645135) + (((((((v - (((v.toUInt32 >>> ((1 : Int32).toUInt32 &&& Int32.toUInt32 31)).toInt32) &&& 1431655765)) &&& 858993459) + ((((v - (((v.toUInt32 >>> ((1 : Int32).toUInt32 &&& Int32.toUInt32 31)).toInt32) &&& 1431655765)).toUInt32 >>> ((2 : Int32).toUInt32 &&& Int32.toUInt32 31)).toInt32) &&& 858993459)) + (((((v - (((v.toUInt32 >>> ((1 : Int32).toUInt32 &&& Int32.toUInt32 31)).toInt32) &&& 1431655765)) &&& 858993459) + ((((v - (((v.toUInt32 >>> ((1 : Int32).toUInt32 &&& Int32.toUInt32 31)).toInt32) &&& 1431655765)).toUInt32 >>> ((2 : Int32).toUInt32 &&& Int32.toUInt32 31)).toInt32) &&& 858993459)).toUInt32 >>> ((4 : Int32).toUInt32 &&& Int32.toUInt32 31)).toInt32)) &&& 252645135).toUInt32 >>> ((8 : Int32).toUInt32 &&& Int32.toUInt32 31)).toInt32)) + ((((((((v - (((v.toUInt32 >>> ((1 : Int32).toUInt32 &&& Int32.toUInt32 31)).toInt32) &&& 1431655765)) &&& 858993459) + ((((v - (((v.toUInt32 >>> ((1 : Int32).toUInt32 &&& Int32.toUInt32 31)).toInt32) &&& 1431655765)).toUInt32 >>> ((2 : Int32).toUInt32 &&& Int32.toUInt32 31)).toInt32) &&& 858993459)) + (((((v - (((v.toUInt32 >>> ((1 : Int32).toUInt32 &&& Int32.toUInt32 31)).toInt32) &&& 1431655765)) &&& 858993459) + ((((v - (((v.toUInt32 >>> ((1 : Int32).toUInt32 &&& Int32.toUInt32 31)).toInt32) &&& 1431655765)).toUInt32 >>> ((2 : Int32).toUInt32 &&& Int32.toUInt32 31)).toInt32) &&& 858993459)).toUInt32 >>> ((4 : Int32).toUInt32 &&& Int32.toUInt32 31)).toInt32)) &&& 252645135) + (((((((v - (((v.toUInt32 >>> ((1 : Int32).toUInt32 &&& Int32.toUInt32 31)).toInt32) &&& 1431655765)) &&& 858993459) + ((((v - (((v.toUInt32 >>> ((1 : Int32).toUInt32 &&& Int32.toUInt32 31)).toInt32) &&& 1431655765)).toUInt32 >>> ((2 : Int32).toUInt32 &&& Int32.toUInt32 31)).toInt32) &&& 858993459)) + (((((v - (((v.toUInt32 >>> ((1 : Int32).toUInt32 &&& Int32.toUInt32 31)).toInt32) &&& 1431655765)) &&& 858993459) + ((((v - (((v.toUInt32 >>> ((1 : Int32).toUInt32 &&& Int32.toUInt32 31)).toInt32) &&& 1431655765)).toUInt32 >>> ((2 : Int32).toUInt32 &&& Int32.toUInt32 31)).toInt32) &&& 858993459)).toUInt32 >>> ((4 : Int32).toUInt32 &&& Int32.toUInt32 31)).toInt32)) &&& 252645135).toUInt32 >>> ((8 : Int32).toUInt32 &&& Int32.toUInt32 31)).toInt32)).toUInt32 >>> ((16 : Int32).toUInt32 &&& Int32.toUInt32 31)).toInt32)) &&& 63
abbrev rmJ6_bitCount_0f7a4 : Room := { frames := 0, cells := 0, slots := 0, locals := 0 }
set_option maxHeartbeats 4000000 in
set_option maxRecDepth 100000 in
theorem c_J6_bitCount_0f7a4 (l : Launch) (D : va_G) (cI : ClassId) (v : Int32)  : Met l yJ6_bitCount_0f7a4 wsJ6_bitCount_0f7a4 rmJ6_bitCount_0f7a4 (va_Pc [.int v] (roP D [(cI, .int)] [])) (vp_Si (fun r9 => r9 = fJ6_bitCount_0f7a4 v)) 0 0 (fun _ => False) := by
  generalize hF : fJ6_bitCount_0f7a4 v = T
  refine Met.ofW (cc := cJ6_bitCount_0f7a4) (maxL := 1) (ret := (some .int)) (by decide) rfl ?_
  intro p e s m args below meth c s₁ B hml hv
  obtain ⟨rfl, hP, hK⟩ := hv
  have hx := B.exec
  have hb := B.bytes
  have hr := B.returns
  have hts := atoms_spec (ws := wsJ6_bitCount_0f7a4) B.pre
  have hown : s.vm.findClass RJ6 = some m.cls := findClass_of_methodNamed B.named
  have hlocks := B.notSynchronized
  have hcst265 := hts (.constant RJ6 265 1431655765) (by decide +kernel)
  have hcst266 := hts (.constant RJ6 266 858993459) (by decide +kernel)
  have hcst267 := hts (.constant RJ6 267 252645135) (by decide +kernel)
  have hl := lv_entry ([.int v]) (n := 1) (Nat.le_of_ble_eq_true rfl)
  rw [lg_entry_eq]
  generalize (lg_sl ([.int v]) ++ List.replicate (1 - (lg_sl ([.int v])).length) Slot.unset).toArray = ls at hl ⊢
  refine w_Q (fun Q hQ => ?_)
  have hl : lv_has ls 1 [(0, .int v)] := hl
  rw [fJ6_bitCount_0f7a4] at hF
  refine lv_iload_n hx hb dJ6_bitCount_0f7a4_0 rfl (lv_at hl 0 rfl) ?_
  refine lv_iload_n hx hb dJ6_bitCount_0f7a4_1 rfl (lv_at hl 0 rfl) ?_
  refine lv_iconst (v := 1) hx hb dJ6_bitCount_0f7a4_2 (by decide) ?_
  refine lv_iushr hx hb dJ6_bitCount_0f7a4_3 rfl ?_
  refine lv_ldcw (v := 1431655765) hx hb hown hcst265 dJ6_bitCount_0f7a4_4 ?_
  refine lv_iand hx hb dJ6_bitCount_0f7a4_7 ?_
  refine lv_isub hx hb dJ6_bitCount_0f7a4_8 ?_
  refine lv_istore_n (lv' := [(0, .int (v - (((v.toUInt32 >>> ((1 : Int32).toUInt32 &&& Int32.toUInt32 31)).toInt32) &&& 1431655765)))]) hx hb dJ6_bitCount_0f7a4_9 rfl hl (by decide) rfl (fun ls hl => ?_)
  refine lv_iload_n hx hb dJ6_bitCount_0f7a4_10 rfl (lv_at hl 0 rfl) ?_
  refine lv_ldcw (v := 858993459) hx hb hown hcst266 dJ6_bitCount_0f7a4_11 ?_
  refine lv_iand hx hb dJ6_bitCount_0f7a4_14 ?_
  refine lv_iload_n hx hb dJ6_bitCount_0f7a4_15 rfl (lv_at hl 0 rfl) ?_
  refine lv_iconst (v := 2) hx hb dJ6_bitCount_0f7a4_16 (by decide) ?_
  refine lv_iushr hx hb dJ6_bitCount_0f7a4_17 rfl ?_
  refine lv_ldcw (v := 858993459) hx hb hown hcst266 dJ6_bitCount_0f7a4_18 ?_
  refine lv_iand hx hb dJ6_bitCount_0f7a4_21 ?_
  refine lv_iadd hx hb dJ6_bitCount_0f7a4_22 ?_
  refine lv_istore_n (lv' := [(0, .int (((v - (((v.toUInt32 >>> ((1 : Int32).toUInt32 &&& Int32.toUInt32 31)).toInt32) &&& 1431655765)) &&& 858993459) + ((((v - (((v.toUInt32 >>> ((1 : Int32).toUInt32 &&& Int32.toUInt32 31)).toInt32) &&& 1431655765)).toUInt32 >>> ((2 : Int32).toUInt32 &&& Int32.toUInt32 31)).toInt32) &&& 858993459)))]) hx hb dJ6_bitCount_0f7a4_23 rfl hl (by decide) rfl (fun ls hl => ?_)
  refine lv_iload_n hx hb dJ6_bitCount_0f7a4_24 rfl (lv_at hl 0 rfl) ?_
  refine lv_iload_n hx hb dJ6_bitCount_0f7a4_25 rfl (lv_at hl 0 rfl) ?_
  refine lv_iconst (v := 4) hx hb dJ6_bitCount_0f7a4_26 (by decide) ?_
  refine lv_iushr hx hb dJ6_bitCount_0f7a4_27 rfl ?_
  refine lv_iadd hx hb dJ6_bitCount_0f7a4_28 ?_
  refine lv_ldcw (v := 252645135) hx hb hown hcst267 dJ6_bitCount_0f7a4_29 ?_
  refine lv_iand hx hb dJ6_bitCount_0f7a4_32 ?_
  refine lv_istore_n (lv' := [(0, .int (((((v - (((v.toUInt32 >>> ((1 : Int32).toUInt32 &&& Int32.toUInt32 31)).toInt32) &&& 1431655765)) &&& 858993459) + ((((v - (((v.toUInt32 >>> ((1 : Int32).toUInt32 &&& Int32.toUInt32 31)).toInt32) &&& 1431655765)).toUInt32 >>> ((2 : Int32).toUInt32 &&& Int32.toUInt32 31)).toInt32) &&& 858993459)) + (((((v - (((v.toUInt32 >>> ((1 : Int32).toUInt32 &&& Int32.toUInt32 31)).toInt32) &&& 1431655765)) &&& 858993459) + ((((v - (((v.toUInt32 >>> ((1 : Int32).toUInt32 &&& Int32.toUInt32 31)).toInt32) &&& 1431655765)).toUInt32 >>> ((2 : Int32).toUInt32 &&& Int32.toUInt32 31)).toInt32) &&& 858993459)).toUInt32 >>> ((4 : Int32).toUInt32 &&& Int32.toUInt32 31)).toInt32)) &&& 252645135))]) hx hb dJ6_bitCount_0f7a4_33 rfl hl (by decide) rfl (fun ls hl => ?_)
  refine lv_iload_n hx hb dJ6_bitCount_0f7a4_34 rfl (lv_at hl 0 rfl) ?_
  refine lv_iload_n hx hb dJ6_bitCount_0f7a4_35 rfl (lv_at hl 0 rfl) ?_
  refine lv_bipush (v := 8) hx hb dJ6_bitCount_0f7a4_36 (by decide) ?_
  refine lv_iushr hx hb dJ6_bitCount_0f7a4_38 rfl ?_
  refine lv_iadd hx hb dJ6_bitCount_0f7a4_39 ?_
  refine lv_istore_n (lv' := [(0, .int ((((((v - (((v.toUInt32 >>> ((1 : Int32).toUInt32 &&& Int32.toUInt32 31)).toInt32) &&& 1431655765)) &&& 858993459) + ((((v - (((v.toUInt32 >>> ((1 : Int32).toUInt32 &&& Int32.toUInt32 31)).toInt32) &&& 1431655765)).toUInt32 >>> ((2 : Int32).toUInt32 &&& Int32.toUInt32 31)).toInt32) &&& 858993459)) + (((((v - (((v.toUInt32 >>> ((1 : Int32).toUInt32 &&& Int32.toUInt32 31)).toInt32) &&& 1431655765)) &&& 858993459) + ((((v - (((v.toUInt32 >>> ((1 : Int32).toUInt32 &&& Int32.toUInt32 31)).toInt32) &&& 1431655765)).toUInt32 >>> ((2 : Int32).toUInt32 &&& Int32.toUInt32 31)).toInt32) &&& 858993459)).toUInt32 >>> ((4 : Int32).toUInt32 &&& Int32.toUInt32 31)).toInt32)) &&& 252645135) + (((((((v - (((v.toUInt32 >>> ((1 : Int32).toUInt32 &&& Int32.toUInt32 31)).toInt32) &&& 1431655765)) &&& 858993459) + ((((v - (((v.toUInt32 >>> ((1 : Int32).toUInt32 &&& Int32.toUInt32 31)).toInt32) &&& 1431655765)).toUInt32 >>> ((2 : Int32).toUInt32 &&& Int32.toUInt32 31)).toInt32) &&& 858993459)) + (((((v - (((v.toUInt32 >>> ((1 : Int32).toUInt32 &&& Int32.toUInt32 31)).toInt32) &&& 1431655765)) &&& 858993459) + ((((v - (((v.toUInt32 >>> ((1 : Int32).toUInt32 &&& Int32.toUInt32 31)).toInt32) &&& 1431655765)).toUInt32 >>> ((2 : Int32).toUInt32 &&& Int32.toUInt32 31)).toInt32) &&& 858993459)).toUInt32 >>> ((4 : Int32).toUInt32 &&& Int32.toUInt32 31)).toInt32)) &&& 252645135).toUInt32 >>> ((8 : Int32).toUInt32 &&& Int32.toUInt32 31)).toInt32)))]) hx hb dJ6_bitCount_0f7a4_40 rfl hl (by decide) rfl (fun ls hl => ?_)
  refine lv_iload_n hx hb dJ6_bitCount_0f7a4_41 rfl (lv_at hl 0 rfl) ?_
  refine lv_iload_n hx hb dJ6_bitCount_0f7a4_42 rfl (lv_at hl 0 rfl) ?_
  refine lv_bipush (v := 16) hx hb dJ6_bitCount_0f7a4_43 (by decide) ?_
  refine lv_iushr hx hb dJ6_bitCount_0f7a4_45 rfl ?_
  refine lv_iadd hx hb dJ6_bitCount_0f7a4_46 ?_
  refine lv_istore_n (lv' := [(0, .int (((((((v - (((v.toUInt32 >>> ((1 : Int32).toUInt32 &&& Int32.toUInt32 31)).toInt32) &&& 1431655765)) &&& 858993459) + ((((v - (((v.toUInt32 >>> ((1 : Int32).toUInt32 &&& Int32.toUInt32 31)).toInt32) &&& 1431655765)).toUInt32 >>> ((2 : Int32).toUInt32 &&& Int32.toUInt32 31)).toInt32) &&& 858993459)) + (((((v - (((v.toUInt32 >>> ((1 : Int32).toUInt32 &&& Int32.toUInt32 31)).toInt32) &&& 1431655765)) &&& 858993459) + ((((v - (((v.toUInt32 >>> ((1 : Int32).toUInt32 &&& Int32.toUInt32 31)).toInt32) &&& 1431655765)).toUInt32 >>> ((2 : Int32).toUInt32 &&& Int32.toUInt32 31)).toInt32) &&& 858993459)).toUInt32 >>> ((4 : Int32).toUInt32 &&& Int32.toUInt32 31)).toInt32)) &&& 252645135) + (((((((v - (((v.toUInt32 >>> ((1 : Int32).toUInt32 &&& Int32.toUInt32 31)).toInt32) &&& 1431655765)) &&& 858993459) + ((((v - (((v.toUInt32 >>> ((1 : Int32).toUInt32 &&& Int32.toUInt32 31)).toInt32) &&& 1431655765)).toUInt32 >>> ((2 : Int32).toUInt32 &&& Int32.toUInt32 31)).toInt32) &&& 858993459)) + (((((v - (((v.toUInt32 >>> ((1 : Int32).toUInt32 &&& Int32.toUInt32 31)).toInt32) &&& 1431655765)) &&& 858993459) + ((((v - (((v.toUInt32 >>> ((1 : Int32).toUInt32 &&& Int32.toUInt32 31)).toInt32) &&& 1431655765)).toUInt32 >>> ((2 : Int32).toUInt32 &&& Int32.toUInt32 31)).toInt32) &&& 858993459)).toUInt32 >>> ((4 : Int32).toUInt32 &&& Int32.toUInt32 31)).toInt32)) &&& 252645135).toUInt32 >>> ((8 : Int32).toUInt32 &&& Int32.toUInt32 31)).toInt32)) + ((((((((v - (((v.toUInt32 >>> ((1 : Int32).toUInt32 &&& Int32.toUInt32 31)).toInt32) &&& 1431655765)) &&& 858993459) + ((((v - (((v.toUInt32 >>> ((1 : Int32).toUInt32 &&& Int32.toUInt32 31)).toInt32) &&& 1431655765)).toUInt32 >>> ((2 : Int32).toUInt32 &&& Int32.toUInt32 31)).toInt32) &&& 858993459)) + (((((v - (((v.toUInt32 >>> ((1 : Int32).toUInt32 &&& Int32.toUInt32 31)).toInt32) &&& 1431655765)) &&& 858993459) + ((((v - (((v.toUInt32 >>> ((1 : Int32).toUInt32 &&& Int32.toUInt32 31)).toInt32) &&& 1431655765)).toUInt32 >>> ((2 : Int32).toUInt32 &&& Int32.toUInt32 31)).toInt32) &&& 858993459)).toUInt32 >>> ((4 : Int32).toUInt32 &&& Int32.toUInt32 31)).toInt32)) &&& 252645135) + (((((((v - (((v.toUInt32 >>> ((1 : Int32).toUInt32 &&& Int32.toUInt32 31)).toInt32) &&& 1431655765)) &&& 858993459) + ((((v - (((v.toUInt32 >>> ((1 : Int32).toUInt32 &&& Int32.toUInt32 31)).toInt32) &&& 1431655765)).toUInt32 >>> ((2 : Int32).toUInt32 &&& Int32.toUInt32 31)).toInt32) &&& 858993459)) + (((((v - (((v.toUInt32 >>> ((1 : Int32).toUInt32 &&& Int32.toUInt32 31)).toInt32) &&& 1431655765)) &&& 858993459) + ((((v - (((v.toUInt32 >>> ((1 : Int32).toUInt32 &&& Int32.toUInt32 31)).toInt32) &&& 1431655765)).toUInt32 >>> ((2 : Int32).toUInt32 &&& Int32.toUInt32 31)).toInt32) &&& 858993459)).toUInt32 >>> ((4 : Int32).toUInt32 &&& Int32.toUInt32 31)).toInt32)) &&& 252645135).toUInt32 >>> ((8 : Int32).toUInt32 &&& Int32.toUInt32 31)).toInt32)).toUInt32 >>> ((16 : Int32).toUInt32 &&& Int32.toUInt32 31)).toInt32)))]) hx hb dJ6_bitCount_0f7a4_47 rfl hl (by decide) rfl (fun ls hl => ?_)
  refine lv_iload_n hx hb dJ6_bitCount_0f7a4_48 rfl (lv_at hl 0 rfl) ?_
  refine lv_bipush (v := 63) hx hb dJ6_bitCount_0f7a4_49 (by decide) ?_
  refine lv_iand hx hb dJ6_bitCount_0f7a4_51 ?_
  subst hQ
  exact W.iret (v := (((((((v - (((v.toUInt32 >>> ((1 : Int32).toUInt32 &&& Int32.toUInt32 31)).toInt32) &&& 1431655765)) &&& 858993459) + ((((v - (((v.toUInt32 >>> ((1 : Int32).toUInt32 &&& Int32.toUInt32 31)).toInt32) &&& 1431655765)).toUInt32 >>> ((2 : Int32).toUInt32 &&& Int32.toUInt32 31)).toInt32) &&& 858993459)) + (((((v - (((v.toUInt32 >>> ((1 : Int32).toUInt32 &&& Int32.toUInt32 31)).toInt32) &&& 1431655765)) &&& 858993459) + ((((v - (((v.toUInt32 >>> ((1 : Int32).toUInt32 &&& Int32.toUInt32 31)).toInt32) &&& 1431655765)).toUInt32 >>> ((2 : Int32).toUInt32 &&& Int32.toUInt32 31)).toInt32) &&& 858993459)).toUInt32 >>> ((4 : Int32).toUInt32 &&& Int32.toUInt32 31)).toInt32)) &&& 252645135) + (((((((v - (((v.toUInt32 >>> ((1 : Int32).toUInt32 &&& Int32.toUInt32 31)).toInt32) &&& 1431655765)) &&& 858993459) + ((((v - (((v.toUInt32 >>> ((1 : Int32).toUInt32 &&& Int32.toUInt32 31)).toInt32) &&& 1431655765)).toUInt32 >>> ((2 : Int32).toUInt32 &&& Int32.toUInt32 31)).toInt32) &&& 858993459)) + (((((v - (((v.toUInt32 >>> ((1 : Int32).toUInt32 &&& Int32.toUInt32 31)).toInt32) &&& 1431655765)) &&& 858993459) + ((((v - (((v.toUInt32 >>> ((1 : Int32).toUInt32 &&& Int32.toUInt32 31)).toInt32) &&& 1431655765)).toUInt32 >>> ((2 : Int32).toUInt32 &&& Int32.toUInt32 31)).toInt32) &&& 858993459)).toUInt32 >>> ((4 : Int32).toUInt32 &&& Int32.toUInt32 31)).toInt32)) &&& 252645135).toUInt32 >>> ((8 : Int32).toUInt32 &&& Int32.toUInt32 31)).toInt32)) + ((((((((v - (((v.toUInt32 >>> ((1 : Int32).toUInt32 &&& Int32.toUInt32 31)).toInt32) &&& 1431655765)) &&& 858993459) + ((((v - (((v.toUInt32 >>> ((1 : Int32).toUInt32 &&& Int32.toUInt32 31)).toInt32) &&& 1431655765)).toUInt32 >>> ((2 : Int32).toUInt32 &&& Int32.toUInt32 31)).toInt32) &&& 858993459)) + (((((v - (((v.toUInt32 >>> ((1 : Int32).toUInt32 &&& Int32.toUInt32 31)).toInt32) &&& 1431655765)) &&& 858993459) + ((((v - (((v.toUInt32 >>> ((1 : Int32).toUInt32 &&& Int32.toUInt32 31)).toInt32) &&& 1431655765)).toUInt32 >>> ((2 : Int32).toUInt32 &&& Int32.toUInt32 31)).toInt32) &&& 858993459)).toUInt32 >>> ((4 : Int32).toUInt32 &&& Int32.toUInt32 31)).toInt32)) &&& 252645135) + (((((((v - (((v.toUInt32 >>> ((1 : Int32).toUInt32 &&& Int32.toUInt32 31)).toInt32) &&& 1431655765)) &&& 858993459) + ((((v - (((v.toUInt32 >>> ((1 : Int32).toUInt32 &&& Int32.toUInt32 31)).toInt32) &&& 1431655765)).toUInt32 >>> ((2 : Int32).toUInt32 &&& Int32.toUInt32 31)).toInt32) &&& 858993459)) + (((((v - (((v.toUInt32 >>> ((1 : Int32).toUInt32 &&& Int32.toUInt32 31)).toInt32) &&& 1431655765)) &&& 858993459) + ((((v - (((v.toUInt32 >>> ((1 : Int32).toUInt32 &&& Int32.toUInt32 31)).toInt32) &&& 1431655765)).toUInt32 >>> ((2 : Int32).toUInt32 &&& Int32.toUInt32 31)).toInt32) &&& 858993459)).toUInt32 >>> ((4 : Int32).toUInt32 &&& Int32.toUInt32 31)).toInt32)) &&& 252645135).toUInt32 >>> ((8 : Int32).toUInt32 &&& Int32.toUInt32 31)).toInt32)).toUInt32 >>> ((16 : Int32).toUInt32 &&& Int32.toUInt32 31)).toInt32)) &&& 63) hx hb hr (fun u9 ht hW => ⟨_, rfl, hF, ht⟩) (fun q hq => by cases hq) dJ6_bitCount_0f7a4_52
def fX4_side (b : Int32) (nn : Int32) (lt : Int32) : Int32 := ((nn - lt) - (2 * (fJ6_bitCount_0f7a4 ((b ^^^ (b >>> (lt &&& 31))) &&& (((1 : Int32) <<< ((nn - lt) &&& 31)) - 1))))) * ((nn - lt) - (2 * (fJ6_bitCount_0f7a4 ((b ^^^ (b >>> (lt &&& 31))) &&& (((1 : Int32) <<< ((nn - lt) &&& 31)) - 1)))))
abbrev rmX4_side : Room := { frames := 1, cells := 0, slots := 0, locals := 20 }
set_option maxHeartbeats 4000000 in
set_option maxRecDepth 100000 in
theorem c_X4_side (l : Launch) (D : va_G) (cI : ClassId) (b : Int32) (nn : Int32) (lt : Int32)  : Met l yX4_side wsX4_side rmX4_side (va_Pc [.int b, .int nn, .int lt] (roP D [(cI, .int)] [])) (vp_Si (fun r9 => r9 = fX4_side b nn lt)) 0 0 (fun _ => False) := by
  generalize hF : fX4_side b nn lt = T
  refine Met.ofW (cc := cX4_side) (maxL := 6) (ret := (some .int)) (by decide) rfl ?_
  intro p e s m args below meth c s₁ B hml hv
  obtain ⟨rfl, hP, hK⟩ := hv
  have hx := B.exec
  have hb := B.bytes
  have hr := B.returns
  have hts := atoms_spec (ws := wsX4_side) B.pre
  have hown : s.vm.findClass RX4 = some m.cls := findClass_of_methodNamed B.named
  have hlocks := B.notSynchronized
  have hl := lv_entry ([.int b, .int nn, .int lt]) (n := 6) (Nat.le_of_ble_eq_true rfl)
  rw [lg_entry_eq]
  generalize (lg_sl ([.int b, .int nn, .int lt]) ++ List.replicate (6 - (lg_sl ([.int b, .int nn, .int lt])).length) Slot.unset).toArray = ls at hl ⊢
  refine w_Q (fun Q hQ => ?_)
  have hl : lv_has ls 6 [(0, .int b), (1, .int nn), (2, .int lt)] := hl
  rw [fX4_side] at hF
  refine lv_iload_n hx hb dX4_side_0 rfl (lv_at hl 1 rfl) ?_
  refine lv_iload_n hx hb dX4_side_1 rfl (lv_at hl 2 rfl) ?_
  refine lv_isub hx hb dX4_side_2 ?_
  refine lv_istore_n (lv' := [(3, .int (nn - lt)), (0, .int b), (1, .int nn), (2, .int lt)]) hx hb dX4_side_3 rfl hl (by decide) rfl (fun ls hl => ?_)
  refine lv_iload_n hx hb dX4_side_4 rfl (lv_at hl 1 rfl) ?_
  refine lv_iload_n hx hb dX4_side_5 rfl (lv_at hl 1 rfl) ?_
  refine lv_iload_n hx hb dX4_side_6 rfl (lv_at hl 3 rfl) ?_
  refine lv_ishr hx hb dX4_side_7 ?_
  refine lv_ixor hx hb dX4_side_8 ?_
  refine lv_iconst (v := 1) hx hb dX4_side_9 (by decide) ?_
  refine lv_iload_n hx hb dX4_side_10 rfl (lv_at hl 0 rfl) ?_
  refine lv_ishl hx hb dX4_side_11 ?_
  refine lv_iconst (v := 1) hx hb dX4_side_12 (by decide) ?_
  refine lv_isub hx hb dX4_side_13 ?_
  refine lv_iand hx hb dX4_side_14 ?_
  refine cs_i (va_runS (As := [.int ((b ^^^ (b >>> (lt &&& 31))) &&& (((1 : Int32) <<< ((nn - lt) &&& 31)) - 1))]) (rest := []) ⟨hx, hb, hml, hown, hts⟩ (c_J6_bitCount_0f7a4 l D cI ((b ^^^ (b >>> (lt &&& 31))) &&& (((1 : Int32) <<< ((nn - lt) &&& 31)) - 1)) ) (va_cwS 1 hts gX4_side_J6_bitCount_0f7a4 rfl rfl rfl (by decide +kernel) ⟨(Nat.le_of_ble_eq_true rfl), (Nat.le_of_ble_eq_true rfl)⟩) (ro_pre hP hK) rfl rfl hl.1 rfl (lv_room (Nat.le_of_ble_eq_true rfl)) dX4_side_15 ⟨Nat.zero_le _, Nat.zero_le _⟩) ?_
  refine lv_istore (lv' := [(4, .int (fJ6_bitCount_0f7a4 ((b ^^^ (b >>> (lt &&& 31))) &&& (((1 : Int32) <<< ((nn - lt) &&& 31)) - 1)))), (3, .int (nn - lt)), (0, .int b), (1, .int nn), (2, .int lt)]) hx hb dX4_side_18 hl (by decide) rfl (fun ls hl => ?_)
  refine lv_iload_n hx hb dX4_side_20 rfl (lv_at hl 1 rfl) ?_
  refine lv_iconst (v := 2) hx hb dX4_side_21 (by decide) ?_
  refine lv_iload hx hb dX4_side_22 (lv_at hl 0 rfl) ?_
  refine lv_imul hx hb dX4_side_24 ?_
  refine lv_isub hx hb dX4_side_25 ?_
  refine lv_istore (lv' := [(5, .int ((nn - lt) - (2 * (fJ6_bitCount_0f7a4 ((b ^^^ (b >>> (lt &&& 31))) &&& (((1 : Int32) <<< ((nn - lt) &&& 31)) - 1)))))), (4, .int (fJ6_bitCount_0f7a4 ((b ^^^ (b >>> (lt &&& 31))) &&& (((1 : Int32) <<< ((nn - lt) &&& 31)) - 1)))), (3, .int (nn - lt)), (0, .int b), (1, .int nn), (2, .int lt)]) hx hb dX4_side_26 hl (by decide) rfl (fun ls hl => ?_)
  refine lv_iload hx hb dX4_side_28 (lv_at hl 0 rfl) ?_
  refine lv_iload hx hb dX4_side_30 (lv_at hl 0 rfl) ?_
  refine lv_imul hx hb dX4_side_32 ?_
  subst hQ
  exact W.iret (v := ((nn - lt) - (2 * (fJ6_bitCount_0f7a4 ((b ^^^ (b >>> (lt &&& 31))) &&& (((1 : Int32) <<< ((nn - lt) &&& 31)) - 1))))) * ((nn - lt) - (2 * (fJ6_bitCount_0f7a4 ((b ^^^ (b >>> (lt &&& 31))) &&& (((1 : Int32) <<< ((nn - lt) &&& 31)) - 1)))))) hx hb hr (fun u9 ht hW => ⟨_, rfl, hF, ht⟩) (fun q hq => by cases hq) dX4_side_33
def F_X4_flankOf_4 (b : Int32) (n : Nat) : Nat → Nat → Int32 → Int32
  | 0, k4, x2 => x2
  | r4 + 1, k4, x2 => F_X4_flankOf_4 b n r4 (k4 + 1) (x2 + (fX4_side b (nI n) (nI k4)))
def fX4_flankOf (b : Int32) (n : Nat) : Int32 := F_X4_flankOf_4 b n (n - 1) 1 0
abbrev rmX4_flankOf : Room := { frames := 2, cells := 0, slots := 0, locals := 45 }
set_option maxHeartbeats 4000000 in
set_option maxRecDepth 100000 in
theorem c_X4_flankOf (l : Launch) (D : va_G) (cI : ClassId) (b : Int32) (n : Nat) (hn : n ≤ 16) : Met l yX4_flankOf wsX4_flankOf rmX4_flankOf (va_Pc [.int b, .int (nI n)] (roP D [(cI, .int)] [])) (vp_Si (fun r9 => r9 = fX4_flankOf b n)) 0 0 (fun _ => False) := by
  generalize hF : fX4_flankOf b n = T
  refine Met.ofW (cc := cX4_flankOf) (maxL := 4) (ret := (some .int)) (by decide) rfl ?_
  intro p e s m args below meth c s₁ B hml hv
  obtain ⟨rfl, hP, hK⟩ := hv
  have hx := B.exec
  have hb := B.bytes
  have hr := B.returns
  have hts := atoms_spec (ws := wsX4_flankOf) B.pre
  have hown : s.vm.findClass RX4 = some m.cls := findClass_of_methodNamed B.named
  have hlocks := B.notSynchronized
  have hl := lv_entry ([.int b, .int (nI n)]) (n := 4) (Nat.le_of_ble_eq_true rfl)
  rw [lg_entry_eq]
  generalize (lg_sl ([.int b, .int (nI n)]) ++ List.replicate (4 - (lg_sl ([.int b, .int (nI n)])).length) Slot.unset).toArray = ls at hl ⊢
  refine w_Q (fun Q hQ => ?_)
  have hl : lv_has ls 4 [(0, .int b), (1, .int (nI n))] := hl
  rw [fX4_flankOf] at hF
  refine lv_iconst (v := 0) hx hb dX4_flankOf_0 (by decide) ?_
  refine lv_istore_n (lv' := [(2, .int 0), (0, .int b), (1, .int (nI n))]) hx hb dX4_flankOf_1 rfl hl (by decide) rfl (fun ls hl => ?_)
  refine lv_iconst (v := 1) hx hb dX4_flankOf_2 (by decide) ?_
  refine lv_istore_n (lv' := [(3, .int 1), (2, .int 0), (0, .int b), (1, .int (nI n))]) hx hb dX4_flankOf_3 rfl hl (by decide) rfl (fun ls hl => ?_)
  have lp4 : ∀ (r4 k4 : Nat) (x2 : Int32) (ls : Array Slot), r4 = n - k4 → k4 ≤ n + 1 → lv_has ls 4 [(0, .int b), (1, .int (nI n)), (2, .int x2), (3, .int (nI k4))] → F_X4_flankOf_4 b n r4 k4 x2 = T → W p l e (headSpec wsX4_flankOf rmX4_flankOf).room s m ([.int b, .int (nI n)] : List Value).toArray below meth c s.heap [] 0 0 Q (F0 m 4 ls []) := by
    intro r4
    induction r4 with
    | zero =>
      intro k4 x2 ls hi4_0 hi4_1 hl hF
      rw [F_X4_flankOf_4] at hF
      refine lv_iload_n hx hb dX4_flankOf_4 rfl (lv_at hl 3 rfl) ?_
      refine lv_iload_n hx hb dX4_flankOf_5 rfl (lv_at hl 1 rfl) ?_
      refine lv_icmp_ge (tgt := 24) hx hb dX4_flankOf_6 (by decide) (fun c6 => ?_) (fun c6 => ?_)
      · skip
        refine lv_iload_n hx hb dX4_flankOf_24 rfl (lv_at hl 2 rfl) ?_
        subst hQ
        exact W.iret (v := x2) hx hb hr (fun u9 ht hW => ⟨_, rfl, hF, ht⟩) (fun q hq => by cases hq) dX4_flankOf_25
      · exact False.elim (c6 (nI_le (a := n) (b := k4) (by omega) (by omega)))
    | succ r4 ih4 =>
      intro k4 x2 ls hi4_0 hi4_1 hl hF
      rw [F_X4_flankOf_4] at hF
      refine lv_iload_n hx hb dX4_flankOf_4 rfl (lv_at hl 3 rfl) ?_
      refine lv_iload_n hx hb dX4_flankOf_5 rfl (lv_at hl 1 rfl) ?_
      refine lv_icmp_ge (tgt := 24) hx hb dX4_flankOf_6 (by decide) (fun c6 => ?_) (fun c6 => ?_)
      · exact False.elim (nI_ge (a := k4) (b := n) (by omega) (by omega) c6)
      · skip
        refine lv_iload_n hx hb dX4_flankOf_9 rfl (lv_at hl 2 rfl) ?_
        refine lv_iload_n hx hb dX4_flankOf_10 rfl (lv_at hl 0 rfl) ?_
        refine lv_iload_n hx hb dX4_flankOf_11 rfl (lv_at hl 1 rfl) ?_
        refine lv_iload_n hx hb dX4_flankOf_12 rfl (lv_at hl 3 rfl) ?_
        refine cs_i (va_runS (As := [.int b, .int (nI n), .int (nI k4)]) (rest := [.int x2]) ⟨hx, hb, hml, hown, hts⟩ (c_X4_side l D cI b (nI n) (nI k4) ) (va_cwS 3 hts gX4_flankOf_X4_side rfl rfl rfl (by decide +kernel) ⟨(Nat.le_of_ble_eq_true rfl), (Nat.le_of_ble_eq_true rfl)⟩) (ro_pre hP hK) rfl rfl hl.1 rfl (lv_room (Nat.le_of_ble_eq_true rfl)) dX4_flankOf_13 ⟨Nat.zero_le _, Nat.zero_le _⟩) ?_
        refine lv_iadd hx hb dX4_flankOf_16 ?_
        refine lv_istore_n (lv' := [(2, .int (x2 + (fX4_side b (nI n) (nI k4)))), (0, .int b), (1, .int (nI n)), (3, .int (nI k4))]) hx hb dX4_flankOf_17 rfl hl (by decide) rfl (fun ls hl => ?_)
        refine lv_iinc (v := nI (k4 + 1)) (lv' := [(3, .int (nI (k4 + 1))), (2, .int (x2 + (fX4_side b (nI n) (nI k4)))), (0, .int b), (1, .int (nI n))]) hx hb dX4_flankOf_18 hl (k := 3) rfl (nI_1 _) (by decide) rfl (fun ls hl => ?_)
        refine lv_goto (tgt := 4) hx hb dX4_flankOf_21 (by decide) ?_
        exact ih4 (k4 + 1) (x2 + (fX4_side b (nI n) (nI k4))) ls (by omega) (by omega)  (lv_sub hl [2, 3, 1, 0] rfl) hF
  exact lp4 (n - 1) 1 0 ls rfl (by omega)  (lv_sub hl [2, 3, 1, 0] rfl) hF
def F_X4_peakOf_5 (b : Int32) (n : Nat) (lm : Int32) : Nat → Nat → Int32 → Int32
  | 0, k5, x3 => x3
  | r5 + 1, k5, x3 => (if lm < x3 then x3 else F_X4_peakOf_5 b n lm r5 (k5 + 1) (if x3 < (fX4_side b (nI n) (nI k5)) then fX4_side b (nI n) (nI k5) else x3))
def fX4_peakOf (b : Int32) (n : Nat) (lm : Int32) : Int32 := F_X4_peakOf_5 b n lm (n - 1) 1 0
abbrev rmX4_peakOf : Room := { frames := 2, cells := 0, slots := 0, locals := 45 }
set_option maxHeartbeats 4000000 in
set_option maxRecDepth 100000 in
theorem c_X4_peakOf (l : Launch) (D : va_G) (cI : ClassId) (b : Int32) (n : Nat) (lm : Int32) (hn : n ≤ 16) : Met l yX4_peakOf wsX4_peakOf rmX4_peakOf (va_Pc [.int b, .int (nI n), .int lm] (roP D [(cI, .int)] [])) (vp_Si (fun r9 => r9 = fX4_peakOf b n lm)) 0 0 (fun _ => False) := by
  generalize hF : fX4_peakOf b n lm = T
  refine Met.ofW (cc := cX4_peakOf) (maxL := 5) (ret := (some .int)) (by decide) rfl ?_
  intro p e s m args below meth c s₁ B hml hv
  obtain ⟨rfl, hP, hK⟩ := hv
  have hx := B.exec
  have hb := B.bytes
  have hr := B.returns
  have hts := atoms_spec (ws := wsX4_peakOf) B.pre
  have hown : s.vm.findClass RX4 = some m.cls := findClass_of_methodNamed B.named
  have hlocks := B.notSynchronized
  have hml20 := hts (.methodLink RX4 20 Lib.Math.max.name) (by decide +kernel)
  have hst20 := hts (.static Lib.Math.max.name) (by decide +kernel)
  have hiM := hts (.initialized "java/lang/Math") (by decide +kernel)
  have hcd20 := hts (.code Lib.Math.max.name Lib.Math.max.code 2 (some .int)) (by decide +kernel)
  have hl := lv_entry ([.int b, .int (nI n), .int lm]) (n := 5) (Nat.le_of_ble_eq_true rfl)
  rw [lg_entry_eq]
  generalize (lg_sl ([.int b, .int (nI n), .int lm]) ++ List.replicate (5 - (lg_sl ([.int b, .int (nI n), .int lm])).length) Slot.unset).toArray = ls at hl ⊢
  refine w_Q (fun Q hQ => ?_)
  have hl : lv_has ls 5 [(0, .int b), (1, .int (nI n)), (2, .int lm)] := hl
  rw [fX4_peakOf] at hF
  refine lv_iconst (v := 0) hx hb dX4_peakOf_0 (by decide) ?_
  refine lv_istore_n (lv' := [(3, .int 0), (0, .int b), (1, .int (nI n)), (2, .int lm)]) hx hb dX4_peakOf_1 rfl hl (by decide) rfl (fun ls hl => ?_)
  refine lv_iconst (v := 1) hx hb dX4_peakOf_2 (by decide) ?_
  refine lv_istore (lv' := [(4, .int 1), (3, .int 0), (0, .int b), (1, .int (nI n)), (2, .int lm)]) hx hb dX4_peakOf_3 hl (by decide) rfl (fun ls hl => ?_)
  have lp5 : ∀ (r5 k5 : Nat) (x3 : Int32) (ls : Array Slot), r5 = n - k5 → k5 ≤ n + 1 → lv_has ls 5 [(0, .int b), (1, .int (nI n)), (2, .int lm), (3, .int x3), (4, .int (nI k5))] → F_X4_peakOf_5 b n lm r5 k5 x3 = T → W p l e (headSpec wsX4_peakOf rmX4_peakOf).room s m ([.int b, .int (nI n), .int lm] : List Value).toArray below meth c s.heap [] 0 0 Q (F0 m 5 ls []) := by
    intro r5
    induction r5 with
    | zero =>
      intro k5 x3 ls hi5_0 hi5_1 hl hF
      rw [F_X4_peakOf_5] at hF
      refine lv_iload hx hb dX4_peakOf_5 (lv_at hl 4 rfl) ?_
      refine lv_iload_n hx hb dX4_peakOf_7 rfl (lv_at hl 1 rfl) ?_
      refine lv_icmp_ge (tgt := 34) hx hb dX4_peakOf_8 (by decide) (fun c8 => ?_) (fun c8 => ?_)
      · skip
        refine lv_iload_n hx hb dX4_peakOf_34 rfl (lv_at hl 3 rfl) ?_
        subst hQ
        exact W.iret (v := x3) hx hb hr (fun u9 ht hW => ⟨_, rfl, hF, ht⟩) (fun q hq => by cases hq) dX4_peakOf_35
      · exact False.elim (c8 (nI_le (a := n) (b := k5) (by omega) (by omega)))
    | succ r5 ih5 =>
      intro k5 x3 ls hi5_0 hi5_1 hl hF
      rw [F_X4_peakOf_5] at hF
      refine lv_iload hx hb dX4_peakOf_5 (lv_at hl 4 rfl) ?_
      refine lv_iload_n hx hb dX4_peakOf_7 rfl (lv_at hl 1 rfl) ?_
      refine lv_icmp_ge (tgt := 34) hx hb dX4_peakOf_8 (by decide) (fun c8 => ?_) (fun c8 => ?_)
      · exact False.elim (nI_ge (a := k5) (b := n) (by omega) (by omega) c8)
      · skip
        refine lv_iload_n hx hb dX4_peakOf_11 rfl (lv_at hl 3 rfl) ?_
        refine lv_iload_n hx hb dX4_peakOf_12 rfl (lv_at hl 2 rfl) ?_
        refine lv_icmp_gt (tgt := 34) hx hb dX4_peakOf_13 (by decide) (fun c13 => ?_) (fun c13 => ?_)
        · rw [if_pos c13] at hF
          refine lv_iload_n hx hb dX4_peakOf_34 rfl (lv_at hl 3 rfl) ?_
          subst hQ
          exact W.iret (v := x3) hx hb hr (fun u9 ht hW => ⟨_, rfl, hF, ht⟩) (fun q hq => by cases hq) dX4_peakOf_35
        · rw [if_neg c13] at hF
          refine lv_iload_n hx hb dX4_peakOf_16 rfl (lv_at hl 3 rfl) ?_
          refine lv_iload_n hx hb dX4_peakOf_17 rfl (lv_at hl 0 rfl) ?_
          refine lv_iload_n hx hb dX4_peakOf_18 rfl (lv_at hl 1 rfl) ?_
          refine lv_iload hx hb dX4_peakOf_19 (lv_at hl 4 rfl) ?_
          refine cs_i (va_runS (As := [.int b, .int (nI n), .int (nI k5)]) (rest := [.int x3]) ⟨hx, hb, hml, hown, hts⟩ (c_X4_side l D cI b (nI n) (nI k5) ) (va_cwS 3 hts gX4_peakOf_X4_side rfl rfl rfl (by decide +kernel) ⟨(Nat.le_of_ble_eq_true rfl), (Nat.le_of_ble_eq_true rfl)⟩) (ro_pre hP hK) rfl rfl hl.1 rfl (lv_room (Nat.le_of_ble_eq_true rfl)) dX4_peakOf_21 ⟨Nat.zero_le _, Nat.zero_le _⟩) ?_
          refine va_mmax hx hb (by rw [hml]; exact hl.1.symm) hown hml20 hst20 hiM hcd20 (Nat.le_of_ble_eq_true rfl) (Nat.le_of_ble_eq_true rfl) (Nat.zero_le _) (Nat.zero_le _) dX4_peakOf_24 ?_
          refine lv_istore_n (lv' := [(3, .int (if x3 < (fX4_side b (nI n) (nI k5)) then fX4_side b (nI n) (nI k5) else x3)), (0, .int b), (1, .int (nI n)), (2, .int lm), (4, .int (nI k5))]) hx hb dX4_peakOf_27 rfl hl (by decide) rfl (fun ls hl => ?_)
          refine lv_iinc (v := nI (k5 + 1)) (lv' := [(4, .int (nI (k5 + 1))), (3, .int (if x3 < (fX4_side b (nI n) (nI k5)) then fX4_side b (nI n) (nI k5) else x3)), (0, .int b), (1, .int (nI n)), (2, .int lm)]) hx hb dX4_peakOf_28 hl (k := 4) rfl (nI_1 _) (by decide) rfl (fun ls hl => ?_)
          refine lv_goto (tgt := 5) hx hb dX4_peakOf_31 (by decide) ?_
          exact ih5 (k5 + 1) (if x3 < (fX4_side b (nI n) (nI k5)) then fX4_side b (nI n) (nI k5) else x3) ls (by omega) (by omega)  (lv_sub hl [2, 3, 4, 1, 0] rfl) hF
  exact lp5 (n - 1) 1 0 ls rfl (by omega)  (lv_sub hl [2, 3, 4, 1, 0] rfl) hF
def F_X4_leastSided_27 (n : Nat) : Nat → Nat → Int32 → Int32 → Int32 → Int32
  | 0, k27, x1, x2, x3 => x1
  | r27 + 1, k27, x1, x2, x3 => (if (fX4_peakOf (nI k27) n x2) ≤ x2 then (if (fX4_peakOf (nI k27) n x2) < x2 then F_X4_leastSided_27 n r27 (k27 + 1) (nI k27) (fX4_peakOf (nI k27) n x2) (fX4_flankOf (nI k27) n) else (if x3 ≤ (fX4_flankOf (nI k27) n) then F_X4_leastSided_27 n r27 (k27 + 1) x1 x2 x3 else F_X4_leastSided_27 n r27 (k27 + 1) (nI k27) (fX4_peakOf (nI k27) n x2) (fX4_flankOf (nI k27) n))) else F_X4_leastSided_27 n r27 (k27 + 1) x1 x2 x3)
def fX4_leastSided (n : Nat) : Int32 := F_X4_leastSided_27 n ((2 ^ (n - 1)) - 1) 1 0 (fX4_peakOf 0 n ((nI n) * (nI n))) (fX4_flankOf 0 n)
abbrev rmX4_leastSided : Room := { frames := 3, cells := 0, slots := 0, locals := 69 }
set_option maxHeartbeats 4000000 in
set_option maxRecDepth 100000 in
theorem c_X4_leastSided (l : Launch) (D : va_G) (cI : ClassId) (n : Nat) (hn1 : 1 ≤ n) (hn : n ≤ 12) : Met l yX4_leastSided wsX4_leastSided rmX4_leastSided (va_Pc [.int (nI n)] (roP D [(cI, .int)] [])) (vp_Si (fun r9 => r9 = fX4_leastSided n)) 0 0 (fun _ => False) := by
  generalize hF : fX4_leastSided n = T
  refine Met.ofW (cc := cX4_leastSided) (maxL := 8) (ret := (some .int)) (by decide) rfl ?_
  intro p e s m args below meth c s₁ B hml hv
  obtain ⟨rfl, hP, hK⟩ := hv
  have hx := B.exec
  have hb := B.bytes
  have hr := B.returns
  have hts := atoms_spec (ws := wsX4_leastSided) B.pre
  have hown : s.vm.findClass RX4 = some m.cls := findClass_of_methodNamed B.named
  have hlocks := B.notSynchronized
  have hl := lv_entry ([.int (nI n)]) (n := 8) (Nat.le_of_ble_eq_true rfl)
  rw [lg_entry_eq]
  generalize (lg_sl ([.int (nI n)]) ++ List.replicate (8 - (lg_sl ([.int (nI n)])).length) Slot.unset).toArray = ls at hl ⊢
  refine w_Q (fun Q hQ => ?_)
  have hpw : 2 ^ (n - 1) ≤ 2 ^ 11 := Nat.pow_le_pow_right (by omega) (by omega)
  have hl : lv_has ls 8 [(0, .int (nI n))] := hl
  rw [fX4_leastSided] at hF
  refine lv_iconst (v := 0) hx hb dX4_leastSided_0 (by decide) ?_
  refine lv_istore_n (lv' := [(1, .int 0), (0, .int (nI n))]) hx hb dX4_leastSided_1 rfl hl (by decide) rfl (fun ls hl => ?_)
  refine lv_iconst (v := 0) hx hb dX4_leastSided_2 (by decide) ?_
  refine lv_iload_n hx hb dX4_leastSided_3 rfl (lv_at hl 1 rfl) ?_
  refine lv_iload_n hx hb dX4_leastSided_4 rfl (lv_at hl 1 rfl) ?_
  refine lv_iload_n hx hb dX4_leastSided_5 rfl (lv_at hl 1 rfl) ?_
  refine lv_imul hx hb dX4_leastSided_6 ?_
  refine cs_i (va_runS (As := [.int 0, .int (nI n), .int ((nI n) * (nI n))]) (rest := []) ⟨hx, hb, hml, hown, hts⟩ (c_X4_peakOf l D cI 0 n ((nI n) * (nI n)) (by first | assumption | omega)) (va_cwS 3 hts gX4_leastSided_X4_peakOf rfl rfl rfl (by decide +kernel) ⟨(Nat.le_of_ble_eq_true rfl), (Nat.le_of_ble_eq_true rfl)⟩) (ro_pre hP hK) rfl rfl hl.1 rfl (lv_room (Nat.le_of_ble_eq_true rfl)) dX4_leastSided_7 ⟨Nat.zero_le _, Nat.zero_le _⟩) ?_
  refine lv_istore_n (lv' := [(2, .int (fX4_peakOf 0 n ((nI n) * (nI n)))), (1, .int 0), (0, .int (nI n))]) hx hb dX4_leastSided_10 rfl hl (by decide) rfl (fun ls hl => ?_)
  refine lv_iconst (v := 0) hx hb dX4_leastSided_11 (by decide) ?_
  refine lv_iload_n hx hb dX4_leastSided_12 rfl (lv_at hl 2 rfl) ?_
  refine cs_i (va_runS (As := [.int 0, .int (nI n)]) (rest := []) ⟨hx, hb, hml, hown, hts⟩ (c_X4_flankOf l D cI 0 n (by first | assumption | omega)) (va_cwS 2 hts gX4_leastSided_X4_flankOf rfl rfl rfl (by decide +kernel) ⟨(Nat.le_of_ble_eq_true rfl), (Nat.le_of_ble_eq_true rfl)⟩) (ro_pre hP hK) rfl rfl hl.1 rfl (lv_room (Nat.le_of_ble_eq_true rfl)) dX4_leastSided_13 ⟨Nat.zero_le _, Nat.zero_le _⟩) ?_
  refine lv_istore_n (lv' := [(3, .int (fX4_flankOf 0 n)), (2, .int (fX4_peakOf 0 n ((nI n) * (nI n)))), (1, .int 0), (0, .int (nI n))]) hx hb dX4_leastSided_16 rfl hl (by decide) rfl (fun ls hl => ?_)
  refine lv_iconst (v := 1) hx hb dX4_leastSided_17 (by decide) ?_
  refine lv_iload_n hx hb dX4_leastSided_18 rfl (lv_at hl 3 rfl) ?_
  refine lv_iconst (v := 1) hx hb dX4_leastSided_19 (by decide) ?_
  refine lv_isub hx hb dX4_leastSided_20 ?_
  refine lv_ishl hx hb dX4_leastSided_21 ?_
  refine lv_istore (lv' := [(4, .int ((1 : Int32) <<< (((nI n) - 1) &&& 31))), (3, .int (fX4_flankOf 0 n)), (2, .int (fX4_peakOf 0 n ((nI n) * (nI n)))), (1, .int 0), (0, .int (nI n))]) hx hb dX4_leastSided_22 hl (by decide) rfl (fun ls hl => ?_)
  refine lv_iconst (v := 1) hx hb dX4_leastSided_24 (by decide) ?_
  refine lv_istore (lv' := [(5, .int 1), (4, .int ((1 : Int32) <<< (((nI n) - 1) &&& 31))), (3, .int (fX4_flankOf 0 n)), (2, .int (fX4_peakOf 0 n ((nI n) * (nI n)))), (1, .int 0), (0, .int (nI n))]) hx hb dX4_leastSided_25 hl (by decide) rfl (fun ls hl => ?_)
  have lp27 : ∀ (r27 k27 : Nat) (x1 : Int32) (x2 : Int32) (x3 : Int32) (ls : Array Slot), r27 = (2 ^ (n - 1)) - k27 → k27 ≤ (2 ^ (n - 1)) + 1 → lv_has ls 8 [(0, .int (nI n)), (1, .int x1), (2, .int x2), (3, .int x3), (4, .int ((1 : Int32) <<< (((nI n) - 1) &&& 31))), (5, .int (nI k27))] → F_X4_leastSided_27 n r27 k27 x1 x2 x3 = T → W p l e (headSpec wsX4_leastSided rmX4_leastSided).room s m ([.int (nI n)] : List Value).toArray below meth c s.heap [] 0 0 Q (F0 m 27 ls []) := by
    intro r27
    induction r27 with
    | zero =>
      intro k27 x1 x2 x3 ls hi27_0 hi27_1 hl hF
      rw [F_X4_leastSided_27] at hF
      refine lv_iload hx hb dX4_leastSided_27 (lv_at hl 5 rfl) ?_
      refine lv_iload hx hb dX4_leastSided_29 (lv_at hl 4 rfl) ?_
      refine lv_icmp_ge (tgt := 87) hx hb dX4_leastSided_31 (by decide) (fun c31 => ?_) (fun c31 => ?_)
      · skip
        refine lv_iload_n hx hb dX4_leastSided_87 rfl (lv_at hl 1 rfl) ?_
        subst hQ
        exact W.iret (v := x1) hx hb hr (fun u9 ht hW => ⟨_, rfl, hF, ht⟩) (fun q hq => by cases hq) dX4_leastSided_88
      · exact False.elim (c31 (by rw [shl1 hn1 hn]; exact nI_le (by omega) (by omega)))
    | succ r27 ih27 =>
      intro k27 x1 x2 x3 ls hi27_0 hi27_1 hl hF
      rw [F_X4_leastSided_27] at hF
      refine lv_iload hx hb dX4_leastSided_27 (lv_at hl 5 rfl) ?_
      refine lv_iload hx hb dX4_leastSided_29 (lv_at hl 4 rfl) ?_
      refine lv_icmp_ge (tgt := 87) hx hb dX4_leastSided_31 (by decide) (fun c31 => ?_) (fun c31 => ?_)
      · exact False.elim ((by rw [shl1 hn1 hn] at c31; exact nI_ge (by omega) (by omega) c31))
      · skip
        refine lv_iload hx hb dX4_leastSided_34 (lv_at hl 5 rfl) ?_
        refine lv_iload_n hx hb dX4_leastSided_36 rfl (lv_at hl 0 rfl) ?_
        refine lv_iload_n hx hb dX4_leastSided_37 rfl (lv_at hl 2 rfl) ?_
        refine cs_i (va_runS (As := [.int (nI k27), .int (nI n), .int x2]) (rest := []) ⟨hx, hb, hml, hown, hts⟩ (c_X4_peakOf l D cI (nI k27) n x2 (by first | assumption | omega)) (va_cwS 3 hts gX4_leastSided_X4_peakOf rfl rfl rfl (by decide +kernel) ⟨(Nat.le_of_ble_eq_true rfl), (Nat.le_of_ble_eq_true rfl)⟩) (ro_pre hP hK) rfl rfl hl.1 rfl (lv_room (Nat.le_of_ble_eq_true rfl)) dX4_leastSided_38 ⟨Nat.zero_le _, Nat.zero_le _⟩) ?_
        refine lv_istore (lv' := [(6, .int (fX4_peakOf (nI k27) n x2)), (0, .int (nI n)), (1, .int x1), (2, .int x2), (3, .int x3), (4, .int ((1 : Int32) <<< (((nI n) - 1) &&& 31))), (5, .int (nI k27))]) hx hb dX4_leastSided_41 hl (by decide) rfl (fun ls hl => ?_)
        refine lv_iload hx hb dX4_leastSided_43 (lv_at hl 0 rfl) ?_
        refine lv_iload_n hx hb dX4_leastSided_45 rfl (lv_at hl 3 rfl) ?_
        refine lv_icmp_le (tgt := 52) hx hb dX4_leastSided_46 (by decide) (fun c46 => ?_) (fun c46 => ?_)
        · rw [if_pos c46] at hF
          refine lv_iload hx hb dX4_leastSided_52 (lv_at hl 6 rfl) ?_
          refine lv_iload_n hx hb dX4_leastSided_54 rfl (lv_at hl 1 rfl) ?_
          refine cs_i (va_runS (As := [.int (nI k27), .int (nI n)]) (rest := []) ⟨hx, hb, hml, hown, hts⟩ (c_X4_flankOf l D cI (nI k27) n (by first | assumption | omega)) (va_cwS 2 hts gX4_leastSided_X4_flankOf rfl rfl rfl (by decide +kernel) ⟨(Nat.le_of_ble_eq_true rfl), (Nat.le_of_ble_eq_true rfl)⟩) (ro_pre hP hK) rfl rfl hl.1 rfl (lv_room (Nat.le_of_ble_eq_true rfl)) dX4_leastSided_55 ⟨Nat.zero_le _, Nat.zero_le _⟩) ?_
          refine lv_istore (lv' := [(7, .int (fX4_flankOf (nI k27) n)), (6, .int (fX4_peakOf (nI k27) n x2)), (0, .int (nI n)), (1, .int x1), (2, .int x2), (3, .int x3), (4, .int ((1 : Int32) <<< (((nI n) - 1) &&& 31))), (5, .int (nI k27))]) hx hb dX4_leastSided_58 hl (by decide) rfl (fun ls hl => ?_)
          refine lv_iload hx hb dX4_leastSided_60 (lv_at hl 1 rfl) ?_
          refine lv_iload_n hx hb dX4_leastSided_62 rfl (lv_at hl 4 rfl) ?_
          refine lv_icmp_lt (tgt := 72) hx hb dX4_leastSided_63 (by decide) (fun c63 => ?_) (fun c63 => ?_)
          · rw [if_pos c63] at hF
            refine lv_iload hx hb dX4_leastSided_72 (lv_at hl 7 rfl) ?_
            refine lv_istore_n (lv' := [(1, .int (nI k27)), (7, .int (fX4_flankOf (nI k27) n)), (6, .int (fX4_peakOf (nI k27) n x2)), (0, .int (nI n)), (2, .int x2), (3, .int x3), (4, .int ((1 : Int32) <<< (((nI n) - 1) &&& 31))), (5, .int (nI k27))]) hx hb dX4_leastSided_74 rfl hl (by decide) rfl (fun ls hl => ?_)
            refine lv_iload hx hb dX4_leastSided_75 (lv_at hl 2 rfl) ?_
            refine lv_istore_n (lv' := [(2, .int (fX4_peakOf (nI k27) n x2)), (1, .int (nI k27)), (7, .int (fX4_flankOf (nI k27) n)), (6, .int (fX4_peakOf (nI k27) n x2)), (0, .int (nI n)), (3, .int x3), (4, .int ((1 : Int32) <<< (((nI n) - 1) &&& 31))), (5, .int (nI k27))]) hx hb dX4_leastSided_77 rfl hl (by decide) rfl (fun ls hl => ?_)
            refine lv_iload hx hb dX4_leastSided_78 (lv_at hl 2 rfl) ?_
            refine lv_istore_n (lv' := [(3, .int (fX4_flankOf (nI k27) n)), (2, .int (fX4_peakOf (nI k27) n x2)), (1, .int (nI k27)), (7, .int (fX4_flankOf (nI k27) n)), (6, .int (fX4_peakOf (nI k27) n x2)), (0, .int (nI n)), (4, .int ((1 : Int32) <<< (((nI n) - 1) &&& 31))), (5, .int (nI k27))]) hx hb dX4_leastSided_80 rfl hl (by decide) rfl (fun ls hl => ?_)
            refine lv_iinc (v := nI (k27 + 1)) (lv' := [(5, .int (nI (k27 + 1))), (3, .int (fX4_flankOf (nI k27) n)), (2, .int (fX4_peakOf (nI k27) n x2)), (1, .int (nI k27)), (7, .int (fX4_flankOf (nI k27) n)), (6, .int (fX4_peakOf (nI k27) n x2)), (0, .int (nI n)), (4, .int ((1 : Int32) <<< (((nI n) - 1) &&& 31)))]) hx hb dX4_leastSided_81 hl (k := 7) rfl (nI_1 _) (by decide) rfl (fun ls hl => ?_)
            refine lv_goto (tgt := 27) hx hb dX4_leastSided_84 (by decide) ?_
            exact ih27 (k27 + 1) (nI k27) (fX4_peakOf (nI k27) n x2) (fX4_flankOf (nI k27) n) ls (by omega) (by omega)  (lv_sub hl [6, 3, 2, 1, 7, 0] rfl) hF
          · rw [if_neg c63] at hF
            refine lv_iload hx hb dX4_leastSided_66 (lv_at hl 0 rfl) ?_
            refine lv_iload_n hx hb dX4_leastSided_68 rfl (lv_at hl 5 rfl) ?_
            refine lv_icmp_ge (tgt := 81) hx hb dX4_leastSided_69 (by decide) (fun c69 => ?_) (fun c69 => ?_)
            · rw [if_pos c69] at hF
              refine lv_iinc (v := nI (k27 + 1)) (lv' := [(5, .int (nI (k27 + 1))), (7, .int (fX4_flankOf (nI k27) n)), (6, .int (fX4_peakOf (nI k27) n x2)), (0, .int (nI n)), (1, .int x1), (2, .int x2), (3, .int x3), (4, .int ((1 : Int32) <<< (((nI n) - 1) &&& 31)))]) hx hb dX4_leastSided_81 hl (k := 7) rfl (nI_1 _) (by decide) rfl (fun ls hl => ?_)
              refine lv_goto (tgt := 27) hx hb dX4_leastSided_84 (by decide) ?_
              exact ih27 (k27 + 1) x1 x2 x3 ls (by omega) (by omega)  (lv_sub hl [3, 4, 5, 6, 7, 0] rfl) hF
            · rw [if_neg c69] at hF
              refine lv_iload hx hb dX4_leastSided_72 (lv_at hl 7 rfl) ?_
              refine lv_istore_n (lv' := [(1, .int (nI k27)), (7, .int (fX4_flankOf (nI k27) n)), (6, .int (fX4_peakOf (nI k27) n x2)), (0, .int (nI n)), (2, .int x2), (3, .int x3), (4, .int ((1 : Int32) <<< (((nI n) - 1) &&& 31))), (5, .int (nI k27))]) hx hb dX4_leastSided_74 rfl hl (by decide) rfl (fun ls hl => ?_)
              refine lv_iload hx hb dX4_leastSided_75 (lv_at hl 2 rfl) ?_
              refine lv_istore_n (lv' := [(2, .int (fX4_peakOf (nI k27) n x2)), (1, .int (nI k27)), (7, .int (fX4_flankOf (nI k27) n)), (6, .int (fX4_peakOf (nI k27) n x2)), (0, .int (nI n)), (3, .int x3), (4, .int ((1 : Int32) <<< (((nI n) - 1) &&& 31))), (5, .int (nI k27))]) hx hb dX4_leastSided_77 rfl hl (by decide) rfl (fun ls hl => ?_)
              refine lv_iload hx hb dX4_leastSided_78 (lv_at hl 2 rfl) ?_
              refine lv_istore_n (lv' := [(3, .int (fX4_flankOf (nI k27) n)), (2, .int (fX4_peakOf (nI k27) n x2)), (1, .int (nI k27)), (7, .int (fX4_flankOf (nI k27) n)), (6, .int (fX4_peakOf (nI k27) n x2)), (0, .int (nI n)), (4, .int ((1 : Int32) <<< (((nI n) - 1) &&& 31))), (5, .int (nI k27))]) hx hb dX4_leastSided_80 rfl hl (by decide) rfl (fun ls hl => ?_)
              refine lv_iinc (v := nI (k27 + 1)) (lv' := [(5, .int (nI (k27 + 1))), (3, .int (fX4_flankOf (nI k27) n)), (2, .int (fX4_peakOf (nI k27) n x2)), (1, .int (nI k27)), (7, .int (fX4_flankOf (nI k27) n)), (6, .int (fX4_peakOf (nI k27) n x2)), (0, .int (nI n)), (4, .int ((1 : Int32) <<< (((nI n) - 1) &&& 31)))]) hx hb dX4_leastSided_81 hl (k := 7) rfl (nI_1 _) (by decide) rfl (fun ls hl => ?_)
              refine lv_goto (tgt := 27) hx hb dX4_leastSided_84 (by decide) ?_
              exact ih27 (k27 + 1) (nI k27) (fX4_peakOf (nI k27) n x2) (fX4_flankOf (nI k27) n) ls (by omega) (by omega)  (lv_sub hl [6, 3, 2, 1, 7, 0] rfl) hF
        · rw [if_neg c46] at hF
          refine lv_goto (tgt := 81) hx hb dX4_leastSided_49 (by decide) ?_
          refine lv_iinc (v := nI (k27 + 1)) (lv' := [(5, .int (nI (k27 + 1))), (6, .int (fX4_peakOf (nI k27) n x2)), (0, .int (nI n)), (1, .int x1), (2, .int x2), (3, .int x3), (4, .int ((1 : Int32) <<< (((nI n) - 1) &&& 31)))]) hx hb dX4_leastSided_81 hl (k := 6) rfl (nI_1 _) (by decide) rfl (fun ls hl => ?_)
          refine lv_goto (tgt := 27) hx hb dX4_leastSided_84 (by decide) ?_
          exact ih27 (k27 + 1) x1 x2 x3 ls (by omega) (by omega)  (lv_sub hl [2, 3, 4, 5, 6, 0] rfl) hF
  exact lp27 ((2 ^ (n - 1)) - 1) 1 0 (fX4_peakOf 0 n ((nI n) * (nI n))) (fX4_flankOf 0 n) ls rfl (by have := Nat.zero_le (2 ^ (n - 1)); omega)  (lv_sub hl [5, 4, 3, 2, 1, 0] rfl) hF
def fX0_mayOrder (n : Int32) (k : Int32) : Int32 := (if (fX6_within n 1 8) = 0 then 0 else (if (fX6_within k 1 n) = 0 then 0 else 1))
abbrev rmX0_mayOrder : Room := { frames := 1, cells := 0, slots := 0, locals := 22 }
set_option maxHeartbeats 4000000 in
set_option maxRecDepth 100000 in
theorem c_X0_mayOrder (l : Launch) (D : va_G) (cI : ClassId) (n : Int32) (k : Int32)  : Met l yX0_mayOrder wsX0_mayOrder rmX0_mayOrder (va_Pc [.int n, .int k] (roP D [(cI, .int)] [])) (vp_Si (fun r9 => r9 = fX0_mayOrder n k)) 0 0 (fun _ => False) := by
  generalize hF : fX0_mayOrder n k = T
  refine Met.ofW (cc := cX0_mayOrder) (maxL := 2) (ret := (some .boolean)) (by decide) rfl ?_
  intro p e s m args below meth c s₁ B hml hv
  obtain ⟨rfl, hP, hK⟩ := hv
  have hx := B.exec
  have hb := B.bytes
  have hr := B.returns
  have hts := atoms_spec (ws := wsX0_mayOrder) B.pre
  have hown : s.vm.findClass RX0 = some m.cls := findClass_of_methodNamed B.named
  have hlocks := B.notSynchronized
  have hiniX6 := hts (.initialized RX6) (by decide +kernel)
  have hst_X6_within := hts (.static yX6_within) (by decide +kernel)
  have hl := lv_entry ([.int n, .int k]) (n := 2) (Nat.le_of_ble_eq_true rfl)
  rw [lg_entry_eq]
  generalize (lg_sl ([.int n, .int k]) ++ List.replicate (2 - (lg_sl ([.int n, .int k])).length) Slot.unset).toArray = ls at hl ⊢
  refine w_Q (fun Q hQ => ?_)
  have hl : lv_has ls 2 [(0, .int n), (1, .int k)] := hl
  rw [fX0_mayOrder] at hF
  refine lv_iload_n hx hb dX0_mayOrder_0 rfl (lv_at hl 0 rfl) ?_
  refine lv_iconst (v := 1) hx hb dX0_mayOrder_1 (by decide) ?_
  refine lv_bipush (v := 8) hx hb dX0_mayOrder_2 (by decide) ?_
  refine cs_i (va_runSN (As := [.int n, .int 1, .int 8]) (rest := []) ⟨hx, hb, hml, hown, hts⟩ (c_X6_within l D cI n 1 8 ) ⟨va_cnB 3 hts gX0_mayOrder_X6_within_n11 rfl rfl rfl hK.2.2.2.2.2.2.2.2.2 hiniX6 (by decide +kernel) ⟨(Nat.le_of_ble_eq_true rfl), (Nat.le_of_ble_eq_true rfl)⟩, hst_X6_within, trivial⟩ (ro_pre hP hK) rfl rfl hl.1 rfl (lv_room (Nat.le_of_ble_eq_true rfl)) dX0_mayOrder_4 ⟨Nat.zero_le _, Nat.zero_le _⟩) ?_
  refine lv_if_eq (tgt := 23) hx hb dX0_mayOrder_7 (by decide) (fun c7 => ?_) (fun c7 => ?_)
  · rw [if_pos c7] at hF
    refine lv_iconst (v := 0) hx hb dX0_mayOrder_23 (by decide) ?_
    subst hQ
    exact W.zret (v := 0) (ty := .boolean) hx hb hr rfl (fun u9 ht hW => ⟨_, rfl, hF, ht⟩) (fun q hq => by cases hq) dX0_mayOrder_24
  · rw [if_neg c7] at hF
    refine lv_iload_n hx hb dX0_mayOrder_10 rfl (lv_at hl 1 rfl) ?_
    refine lv_iconst (v := 1) hx hb dX0_mayOrder_11 (by decide) ?_
    refine lv_iload_n hx hb dX0_mayOrder_12 rfl (lv_at hl 0 rfl) ?_
    refine cs_i (va_runSN (As := [.int k, .int 1, .int n]) (rest := []) ⟨hx, hb, hml, hown, hts⟩ (c_X6_within l D cI k 1 n ) ⟨va_cnB 3 hts gX0_mayOrder_X6_within_n11 rfl rfl rfl hK.2.2.2.2.2.2.2.2.2 hiniX6 (by decide +kernel) ⟨(Nat.le_of_ble_eq_true rfl), (Nat.le_of_ble_eq_true rfl)⟩, hst_X6_within, trivial⟩ (ro_pre hP hK) rfl rfl hl.1 rfl (lv_room (Nat.le_of_ble_eq_true rfl)) dX0_mayOrder_13 ⟨Nat.zero_le _, Nat.zero_le _⟩) ?_
    refine lv_if_eq (tgt := 23) hx hb dX0_mayOrder_16 (by decide) (fun c16 => ?_) (fun c16 => ?_)
    · rw [if_pos c16] at hF
      refine lv_iconst (v := 0) hx hb dX0_mayOrder_23 (by decide) ?_
      subst hQ
      exact W.zret (v := 0) (ty := .boolean) hx hb hr rfl (fun u9 ht hW => ⟨_, rfl, hF, ht⟩) (fun q hq => by cases hq) dX0_mayOrder_24
    · rw [if_neg c16] at hF
      refine lv_iconst (v := 1) hx hb dX0_mayOrder_19 (by decide) ?_
      refine lv_goto (tgt := 24) hx hb dX0_mayOrder_20 (by decide) ?_
      subst hQ
      exact W.zret (v := 1) (ty := .boolean) hx hb hr rfl (fun u9 ht hW => ⟨_, rfl, hF, ht⟩) (fun q hq => by cases hq) dX0_mayOrder_24
def F_X0_product_5 (n : Int32) (mo : Int32) : Nat → Nat → Int64 → Int64
  | 0, k5, x3 => x3
  | r5 + 1, k5, x3 => F_X0_product_5 n mo r5 (k5 + 1) (x3 * (((n - (nI k5)) + mo).toInt64))
def fX0_product (n : Int32) (k : Nat) (mo : Int32) : Int64 := F_X0_product_5 n mo (k - 0) 0 1
abbrev rmX0_product : Room := { frames := 0, cells := 0, slots := 0, locals := 0 }
set_option maxHeartbeats 4000000 in
set_option maxRecDepth 100000 in
theorem c_X0_product (l : Launch) (D : va_G) (cI : ClassId) (n : Int32) (k : Nat) (mo : Int32) (hk : k ≤ 8) : Met l yX0_product wsX0_product rmX0_product (va_Pc [.int n, .int (nI k), .int mo] (roP D [(cI, .int)] [])) (vp_Sl (fun r9 => r9 = fX0_product n k mo)) 0 0 (fun _ => False) := by
  generalize hF : fX0_product n k mo = T
  refine Met.ofW (cc := cX0_product) (maxL := 6) (ret := (some .long)) (by decide) rfl ?_
  intro p e s m args below meth c s₁ B hml hv
  obtain ⟨rfl, hP, hK⟩ := hv
  have hx := B.exec
  have hb := B.bytes
  have hr := B.returns
  have hts := atoms_spec (ws := wsX0_product) B.pre
  have hown : s.vm.findClass RX0 = some m.cls := findClass_of_methodNamed B.named
  have hlocks := B.notSynchronized
  have hl := lv_entry ([.int n, .int (nI k), .int mo]) (n := 6) (Nat.le_of_ble_eq_true rfl)
  rw [lg_entry_eq]
  generalize (lg_sl ([.int n, .int (nI k), .int mo]) ++ List.replicate (6 - (lg_sl ([.int n, .int (nI k), .int mo])).length) Slot.unset).toArray = ls at hl ⊢
  refine w_Q (fun Q hQ => ?_)
  have hl : lv_has ls 6 [(0, .int n), (1, .int (nI k)), (2, .int mo)] := hl
  rw [fX0_product] at hF
  refine lv_lconst (v := 1) hx hb dX0_product_0 (by decide) ?_
  refine lv_lstore_n (lv' := [(3, .long 1), (0, .int n), (1, .int (nI k)), (2, .int mo)]) hx hb dX0_product_1 rfl hl (by decide) rfl (fun ls hl => ?_)
  refine lv_iconst (v := 0) hx hb dX0_product_2 (by decide) ?_
  refine lv_istore (lv' := [(5, .int 0), (3, .long 1), (0, .int n), (1, .int (nI k)), (2, .int mo)]) hx hb dX0_product_3 hl (by decide) rfl (fun ls hl => ?_)
  have lp5 : ∀ (r5 k5 : Nat) (x3 : Int64) (ls : Array Slot), r5 = k - k5 → k5 ≤ k + 1 → lv_has ls 6 [(0, .int n), (1, .int (nI k)), (2, .int mo), (3, .long x3), (5, .int (nI k5))] → F_X0_product_5 n mo r5 k5 x3 = T → W p l e (headSpec wsX0_product rmX0_product).room s m ([.int n, .int (nI k), .int mo] : List Value).toArray below meth c s.heap [] 0 0 Q (F0 m 5 ls []) := by
    intro r5
    induction r5 with
    | zero =>
      intro k5 x3 ls hi5_0 hi5_1 hl hF
      rw [F_X0_product_5] at hF
      refine lv_iload hx hb dX0_product_5 (lv_at hl 4 rfl) ?_
      refine lv_iload_n hx hb dX0_product_7 rfl (lv_at hl 1 rfl) ?_
      refine lv_icmp_ge (tgt := 27) hx hb dX0_product_8 (by decide) (fun c8 => ?_) (fun c8 => ?_)
      · skip
        refine lv_lload_n hx hb dX0_product_27 rfl (lv_at hl 3 rfl) ?_
        subst hQ
        exact W.lret (v := x3) hx hb hr (fun u9 ht hW => ⟨_, rfl, hF, ht⟩) (fun q hq => by cases hq) dX0_product_28
      · exact False.elim (c8 (nI_le (a := k) (b := k5) (by omega) (by omega)))
    | succ r5 ih5 =>
      intro k5 x3 ls hi5_0 hi5_1 hl hF
      rw [F_X0_product_5] at hF
      refine lv_iload hx hb dX0_product_5 (lv_at hl 4 rfl) ?_
      refine lv_iload_n hx hb dX0_product_7 rfl (lv_at hl 1 rfl) ?_
      refine lv_icmp_ge (tgt := 27) hx hb dX0_product_8 (by decide) (fun c8 => ?_) (fun c8 => ?_)
      · exact False.elim (nI_ge (a := k5) (b := k) (by omega) (by omega) c8)
      · skip
        refine lv_lload_n hx hb dX0_product_11 rfl (lv_at hl 3 rfl) ?_
        refine lv_iload_n hx hb dX0_product_12 rfl (lv_at hl 0 rfl) ?_
        refine lv_iload hx hb dX0_product_13 (lv_at hl 4 rfl) ?_
        refine lv_isub hx hb dX0_product_15 ?_
        refine lv_iload_n hx hb dX0_product_16 rfl (lv_at hl 2 rfl) ?_
        refine lv_iadd hx hb dX0_product_17 ?_
        refine lv_i2l hx hb dX0_product_18 rfl ?_
        refine lv_lmul hx hb dX0_product_19 ?_
        refine lv_lstore_n (lv' := [(3, .long (x3 * (((n - (nI k5)) + mo).toInt64))), (0, .int n), (1, .int (nI k)), (2, .int mo), (5, .int (nI k5))]) hx hb dX0_product_20 rfl hl (by decide) rfl (fun ls hl => ?_)
        refine lv_iinc (v := nI (k5 + 1)) (lv' := [(5, .int (nI (k5 + 1))), (3, .long (x3 * (((n - (nI k5)) + mo).toInt64))), (0, .int n), (1, .int (nI k)), (2, .int mo)]) hx hb dX0_product_21 hl (k := 4) rfl (nI_1 _) (by decide) rfl (fun ls hl => ?_)
        refine lv_goto (tgt := 5) hx hb dX0_product_24 (by decide) ?_
        exact ih5 (k5 + 1) (x3 * (((n - (nI k5)) + mo).toInt64)) ls (by omega) (by omega)  (lv_sub hl [2, 3, 4, 1, 0] rfl) hF
  exact lp5 (k - 0) 0 1 ls rfl (by omega)  (lv_sub hl [2, 3, 4, 1, 0] rfl) hF
def F_X0_leastScale_10 (n : Int32) (k : Nat) (u : Int32) : Nat → Nat → Int32
  | 0, k10 => (-1)
  | r10 + 1, k10 => (if 0 < (lg_cmp ((fX0_product n k 0) * u.toInt64) (fX0_product n k (nI k10))) then F_X0_leastScale_10 n k u r10 (k10 + 1)  else nI k10)
def fX0_leastScale (n : Int32) (k : Nat) (u : Int32) : Int32 := F_X0_leastScale_10 n k u ((40 + 1) - 1) 1 
abbrev rmX0_leastScale : Room := { frames := 1, cells := 0, slots := 0, locals := 25 }
set_option maxHeartbeats 4000000 in
set_option maxRecDepth 100000 in
theorem c_X0_leastScale (l : Launch) (D : va_G) (cI : ClassId) (n : Int32) (k : Nat) (u : Int32) (hk : k ≤ 8) : Met l yX0_leastScale wsX0_leastScale rmX0_leastScale (va_Pc [.int n, .int (nI k), .int u] (roP D [(cI, .int)] [])) (vp_Si (fun r9 => r9 = fX0_leastScale n k u)) 0 0 (fun _ => False) := by
  generalize hF : fX0_leastScale n k u = T
  refine Met.ofW (cc := cX0_leastScale) (maxL := 6) (ret := (some .int)) (by decide) rfl ?_
  intro p e s m args below meth c s₁ B hml hv
  obtain ⟨rfl, hP, hK⟩ := hv
  have hx := B.exec
  have hb := B.bytes
  have hr := B.returns
  have hts := atoms_spec (ws := wsX0_leastScale) B.pre
  have hown : s.vm.findClass RX0 = some m.cls := findClass_of_methodNamed B.named
  have hlocks := B.notSynchronized
  have hl := lv_entry ([.int n, .int (nI k), .int u]) (n := 6) (Nat.le_of_ble_eq_true rfl)
  rw [lg_entry_eq]
  generalize (lg_sl ([.int n, .int (nI k), .int u]) ++ List.replicate (6 - (lg_sl ([.int n, .int (nI k), .int u])).length) Slot.unset).toArray = ls at hl ⊢
  refine w_Q (fun Q hQ => ?_)
  have hl : lv_has ls 6 [(0, .int n), (1, .int (nI k)), (2, .int u)] := hl
  rw [fX0_leastScale] at hF
  refine lv_iload_n hx hb dX0_leastScale_0 rfl (lv_at hl 0 rfl) ?_
  refine lv_iload_n hx hb dX0_leastScale_1 rfl (lv_at hl 1 rfl) ?_
  refine lv_iconst (v := 0) hx hb dX0_leastScale_2 (by decide) ?_
  refine cs_l (va_runS (As := [.int n, .int (nI k), .int 0]) (rest := []) ⟨hx, hb, hml, hown, hts⟩ (c_X0_product l D cI n k 0 (by first | assumption | omega)) (va_cwS 3 hts gX0_leastScale_X0_product rfl rfl rfl (by decide +kernel) ⟨(Nat.le_of_ble_eq_true rfl), (Nat.le_of_ble_eq_true rfl)⟩) (ro_pre hP hK) rfl rfl hl.1 rfl (lv_room (Nat.le_of_ble_eq_true rfl)) dX0_leastScale_3 ⟨Nat.zero_le _, Nat.zero_le _⟩) ?_
  refine lv_lstore_n (lv' := [(3, .long (fX0_product n k 0)), (0, .int n), (1, .int (nI k)), (2, .int u)]) hx hb dX0_leastScale_6 rfl hl (by decide) rfl (fun ls hl => ?_)
  refine lv_iconst (v := 1) hx hb dX0_leastScale_7 (by decide) ?_
  refine lv_istore (lv' := [(5, .int 1), (3, .long (fX0_product n k 0)), (0, .int n), (1, .int (nI k)), (2, .int u)]) hx hb dX0_leastScale_8 hl (by decide) rfl (fun ls hl => ?_)
  have lp10 : ∀ (r10 k10 : Nat)  (ls : Array Slot), r10 = (40 + 1) - k10 → k10 ≤ (40 + 1) + 1 → lv_has ls 6 [(0, .int n), (1, .int (nI k)), (2, .int u), (3, .long (fX0_product n k 0)), (5, .int (nI k10))] → F_X0_leastScale_10 n k u r10 k10  = T → W p l e (headSpec wsX0_leastScale rmX0_leastScale).room s m ([.int n, .int (nI k), .int u] : List Value).toArray below meth c s.heap [] 0 0 Q (F0 m 10 ls []) := by
    intro r10
    induction r10 with
    | zero =>
      intro k10  ls hi10_0 hi10_1 hl hF
      rw [F_X0_leastScale_10] at hF
      refine lv_iload hx hb dX0_leastScale_10 (lv_at hl 4 rfl) ?_
      refine lv_bipush (v := 40) hx hb dX0_leastScale_12 (by decide) ?_
      refine lv_icmp_gt (tgt := 41) hx hb dX0_leastScale_14 (by decide) (fun c14 => ?_) (fun c14 => ?_)
      · skip
        refine lv_iconst (v := (-1)) hx hb dX0_leastScale_41 (by decide) ?_
        subst hQ
        exact W.iret (v := (-1)) hx hb hr (fun u9 ht hW => ⟨_, rfl, hF, ht⟩) (fun q hq => by cases hq) dX0_leastScale_42
      · exact False.elim (c14 (nI_lt (a := 40) (b := k10) (by omega) (by omega)))
    | succ r10 ih10 =>
      intro k10  ls hi10_0 hi10_1 hl hF
      rw [F_X0_leastScale_10] at hF
      refine lv_iload hx hb dX0_leastScale_10 (lv_at hl 4 rfl) ?_
      refine lv_bipush (v := 40) hx hb dX0_leastScale_12 (by decide) ?_
      refine lv_icmp_gt (tgt := 41) hx hb dX0_leastScale_14 (by decide) (fun c14 => ?_) (fun c14 => ?_)
      · exact False.elim (nI_nlt (a := 40) (b := k10) (by omega) (by omega) c14)
      · skip
        refine lv_lload_n hx hb dX0_leastScale_17 rfl (lv_at hl 3 rfl) ?_
        refine lv_iload_n hx hb dX0_leastScale_18 rfl (lv_at hl 2 rfl) ?_
        refine lv_i2l hx hb dX0_leastScale_19 rfl ?_
        refine lv_lmul hx hb dX0_leastScale_20 ?_
        refine lv_iload_n hx hb dX0_leastScale_21 rfl (lv_at hl 0 rfl) ?_
        refine lv_iload_n hx hb dX0_leastScale_22 rfl (lv_at hl 1 rfl) ?_
        refine lv_iload hx hb dX0_leastScale_23 (lv_at hl 4 rfl) ?_
        refine cs_l (va_runS (As := [.int n, .int (nI k), .int (nI k10)]) (rest := [.long ((fX0_product n k 0) * u.toInt64)]) ⟨hx, hb, hml, hown, hts⟩ (c_X0_product l D cI n k (nI k10) (by first | assumption | omega)) (va_cwS 3 hts gX0_leastScale_X0_product rfl rfl rfl (by decide +kernel) ⟨(Nat.le_of_ble_eq_true rfl), (Nat.le_of_ble_eq_true rfl)⟩) (ro_pre hP hK) rfl rfl hl.1 rfl (lv_room (Nat.le_of_ble_eq_true rfl)) dX0_leastScale_25 ⟨Nat.zero_le _, Nat.zero_le _⟩) ?_
        refine W.lcmp hx hb dX0_leastScale_28 ?_
        refine lv_if_gt (tgt := 35) hx hb dX0_leastScale_29 (by decide) (fun c29 => ?_) (fun c29 => ?_)
        · rw [if_pos c29] at hF
          refine lv_iinc (v := nI (k10 + 1)) (lv' := [(5, .int (nI (k10 + 1))), (0, .int n), (1, .int (nI k)), (2, .int u), (3, .long (fX0_product n k 0))]) hx hb dX0_leastScale_35 hl (k := 4) rfl (nI_1 _) (by decide) rfl (fun ls hl => ?_)
          refine lv_goto (tgt := 10) hx hb dX0_leastScale_38 (by decide) ?_
          exact ih10 (k10 + 1)  ls (by omega) (by omega)  (lv_sub hl [1, 2, 3, 4, 0] rfl) hF
        · rw [if_neg c29] at hF
          refine lv_iload hx hb dX0_leastScale_32 (lv_at hl 4 rfl) ?_
          subst hQ
          exact W.iret (v := nI k10) hx hb hr (fun u9 ht hW => ⟨_, rfl, hF, ht⟩) (fun q hq => by cases hq) dX0_leastScale_34
  exact lp10 ((40 + 1) - 1) 1  ls rfl (by omega)  (lv_sub hl [2, 3, 4, 1, 0] rfl) hF
def F_X6_commonDivisor_9  : Nat → Nat → Int64 → Int64 → Int64
  | 0, k9, x4, x6 => (if (lg_cmp x4 1) < 0 then 1 else x4)
  | r9 + 1, k9, x4, x6 => (if (lg_cmp x6 0) = 0 then (if (lg_cmp x4 1) < 0 then 1 else x4) else F_X6_commonDivisor_9  r9 (k9 + 1) x6 (x4 - x4 / x6 * x6))
def fX6_commonDivisor (a : Int64) (b : Int64) : Int64 := F_X6_commonDivisor_9  (1000 - 0) 0 a b
abbrev rmX6_commonDivisor : Room := { frames := 0, cells := 0, slots := 0, locals := 0 }
set_option maxHeartbeats 4000000 in
set_option maxRecDepth 100000 in
theorem c_X6_commonDivisor (l : Launch) (D : va_G) (cI : ClassId) (a : Int64) (b : Int64)  : Met l yX6_commonDivisor wsX6_commonDivisor rmX6_commonDivisor (va_Pc [.long a, .long b] (roP D [(cI, .int)] [])) (vp_Sl (fun r9 => r9 = fX6_commonDivisor a b)) 0 0 (fun _ => False) := by
  generalize hF : fX6_commonDivisor a b = T
  refine Met.ofW (cc := cX6_commonDivisor) (maxL := 11) (ret := (some .long)) (by decide) rfl ?_
  intro p e s m args below meth c s₁ B hml hv
  obtain ⟨rfl, hP, hK⟩ := hv
  have hx := B.exec
  have hb := B.bytes
  have hr := B.returns
  have hts := atoms_spec (ws := wsX6_commonDivisor) B.pre
  have hown : s.vm.findClass RX6 = some m.cls := findClass_of_methodNamed B.named
  have hlocks := B.notSynchronized
  have hl := lv_entry ([.long a, .long b]) (n := 11) (Nat.le_of_ble_eq_true rfl)
  rw [lg_entry_eq]
  generalize (lg_sl ([.long a, .long b]) ++ List.replicate (11 - (lg_sl ([.long a, .long b])).length) Slot.unset).toArray = ls at hl ⊢
  refine w_Q (fun Q hQ => ?_)
  have hl : lv_has ls 11 [(0, .long a), (2, .long b)] := hl
  rw [fX6_commonDivisor] at hF
  refine lv_lload_n hx hb dX6_commonDivisor_0 rfl (lv_at hl 0 rfl) ?_
  refine lv_lstore (lv' := [(4, .long a), (0, .long a), (2, .long b)]) hx hb dX6_commonDivisor_1 hl (by decide) rfl (fun ls hl => ?_)
  refine lv_lload_n hx hb dX6_commonDivisor_3 rfl (lv_at hl 2 rfl) ?_
  refine lv_lstore (lv' := [(6, .long b), (4, .long a), (0, .long a), (2, .long b)]) hx hb dX6_commonDivisor_4 hl (by decide) rfl (fun ls hl => ?_)
  refine lv_iconst (v := 0) hx hb dX6_commonDivisor_6 (by decide) ?_
  refine lv_istore (lv' := [(8, .int 0), (6, .long b), (4, .long a), (0, .long a), (2, .long b)]) hx hb dX6_commonDivisor_7 hl (by decide) rfl (fun ls hl => ?_)
  have lp9 : ∀ (r9 k9 : Nat) (x4 : Int64) (x6 : Int64) (ls : Array Slot), r9 = 1000 - k9 → k9 ≤ 1000 + 1 → lv_has ls 11 [(0, .long a), (2, .long b), (4, .long x4), (6, .long x6), (8, .int (nI k9))] → F_X6_commonDivisor_9  r9 k9 x4 x6 = T → W p l e (headSpec wsX6_commonDivisor rmX6_commonDivisor).room s m ([.long a, .long b] : List Value).toArray below meth c s.heap [] 0 0 Q (F0 m 9 ls []) := by
    intro r9
    induction r9 with
    | zero =>
      intro k9 x4 x6 ls hi9_0 hi9_1 hl hF
      rw [F_X6_commonDivisor_9] at hF
      refine lv_iload hx hb dX6_commonDivisor_9 (lv_at hl 4 rfl) ?_
      refine lv_sipush (v := 1000) hx hb dX6_commonDivisor_11 (by decide) ?_
      refine lv_icmp_ge (tgt := 45) hx hb dX6_commonDivisor_14 (by decide) (fun c14 => ?_) (fun c14 => ?_)
      · skip
        refine lv_lload hx hb dX6_commonDivisor_45 (lv_at hl 2 rfl) ?_
        refine lv_lconst (v := 1) hx hb dX6_commonDivisor_47 (by decide) ?_
        refine W.lcmp hx hb dX6_commonDivisor_48 ?_
        refine lv_if_lt (tgt := 57) hx hb dX6_commonDivisor_49 (by decide) (fun c49 => ?_) (fun c49 => ?_)
        · rw [if_pos c49] at hF
          refine lv_lconst (v := 1) hx hb dX6_commonDivisor_57 (by decide) ?_
          subst hQ
          exact W.lret (v := 1) hx hb hr (fun u9 ht hW => ⟨_, rfl, hF, ht⟩) (fun q hq => by cases hq) dX6_commonDivisor_58
        · rw [if_neg c49] at hF
          refine lv_lload hx hb dX6_commonDivisor_52 (lv_at hl 2 rfl) ?_
          refine lv_goto (tgt := 58) hx hb dX6_commonDivisor_54 (by decide) ?_
          subst hQ
          exact W.lret (v := x4) hx hb hr (fun u9 ht hW => ⟨_, rfl, hF, ht⟩) (fun q hq => by cases hq) dX6_commonDivisor_58
      · exact False.elim (c14 (nI_le (a := 1000) (b := k9) (by omega) (by omega)))
    | succ r9 ih9 =>
      intro k9 x4 x6 ls hi9_0 hi9_1 hl hF
      rw [F_X6_commonDivisor_9] at hF
      refine lv_iload hx hb dX6_commonDivisor_9 (lv_at hl 4 rfl) ?_
      refine lv_sipush (v := 1000) hx hb dX6_commonDivisor_11 (by decide) ?_
      refine lv_icmp_ge (tgt := 45) hx hb dX6_commonDivisor_14 (by decide) (fun c14 => ?_) (fun c14 => ?_)
      · exact False.elim (nI_ge (a := k9) (b := 1000) (by omega) (by omega) c14)
      · skip
        refine lv_lload hx hb dX6_commonDivisor_17 (lv_at hl 3 rfl) ?_
        refine lv_lconst (v := 0) hx hb dX6_commonDivisor_19 (by decide) ?_
        refine W.lcmp hx hb dX6_commonDivisor_20 ?_
        refine lv_if_eq (tgt := 45) hx hb dX6_commonDivisor_21 (by decide) (fun c21 => ?_) (fun c21 => ?_)
        · rw [if_pos c21] at hF
          refine lv_lload hx hb dX6_commonDivisor_45 (lv_at hl 2 rfl) ?_
          refine lv_lconst (v := 1) hx hb dX6_commonDivisor_47 (by decide) ?_
          refine W.lcmp hx hb dX6_commonDivisor_48 ?_
          refine lv_if_lt (tgt := 57) hx hb dX6_commonDivisor_49 (by decide) (fun c49 => ?_) (fun c49 => ?_)
          · rw [if_pos c49] at hF
            refine lv_lconst (v := 1) hx hb dX6_commonDivisor_57 (by decide) ?_
            subst hQ
            exact W.lret (v := 1) hx hb hr (fun u9 ht hW => ⟨_, rfl, hF, ht⟩) (fun q hq => by cases hq) dX6_commonDivisor_58
          · rw [if_neg c49] at hF
            refine lv_lload hx hb dX6_commonDivisor_52 (lv_at hl 2 rfl) ?_
            refine lv_goto (tgt := 58) hx hb dX6_commonDivisor_54 (by decide) ?_
            subst hQ
            exact W.lret (v := x4) hx hb hr (fun u9 ht hW => ⟨_, rfl, hF, ht⟩) (fun q hq => by cases hq) dX6_commonDivisor_58
        · rw [if_neg c21] at hF
          refine lv_lload hx hb dX6_commonDivisor_24 (lv_at hl 2 rfl) ?_
          refine lv_lload hx hb dX6_commonDivisor_26 (lv_at hl 3 rfl) ?_
          refine lv_lrem hx hb dX6_commonDivisor_28 (lg_ne c21) ?_
          refine lv_lstore (lv' := [(9, .long (x4 - x4 / x6 * x6)), (0, .long a), (2, .long b), (4, .long x4), (6, .long x6), (8, .int (nI k9))]) hx hb dX6_commonDivisor_29 hl (by decide) rfl (fun ls hl => ?_)
          refine lv_lload hx hb dX6_commonDivisor_31 (lv_at hl 4 rfl) ?_
          refine lv_lstore (lv' := [(4, .long x6), (9, .long (x4 - x4 / x6 * x6)), (0, .long a), (2, .long b), (6, .long x6), (8, .int (nI k9))]) hx hb dX6_commonDivisor_33 hl (by decide) rfl (fun ls hl => ?_)
          refine lv_lload hx hb dX6_commonDivisor_35 (lv_at hl 1 rfl) ?_
          refine lv_lstore (lv' := [(6, .long (x4 - x4 / x6 * x6)), (4, .long x6), (9, .long (x4 - x4 / x6 * x6)), (0, .long a), (2, .long b), (8, .int (nI k9))]) hx hb dX6_commonDivisor_37 hl (by decide) rfl (fun ls hl => ?_)
          refine lv_iinc (v := nI (k9 + 1)) (lv' := [(8, .int (nI (k9 + 1))), (6, .long (x4 - x4 / x6 * x6)), (4, .long x6), (9, .long (x4 - x4 / x6 * x6)), (0, .long a), (2, .long b)]) hx hb dX6_commonDivisor_39 hl (k := 5) rfl (nI_1 _) (by decide) rfl (fun ls hl => ?_)
          refine lv_goto (tgt := 9) hx hb dX6_commonDivisor_42 (by decide) ?_
          exact ih9 (k9 + 1) x6 (x4 - x4 / x6 * x6) ls (by omega) (by omega)  (lv_sub hl [4, 5, 2, 1, 0] rfl) hF
  exact lp9 (1000 - 0) 0 a b ls rfl (by omega)  (lv_sub hl [3, 4, 2, 1, 0] rfl) hF
end
section
theorem addm1 {a b : Nat} (h : 1 ≤ a + b) : nI a + nI b - 1 = nI (a + b - 1) := by
  rw [nI_add, show (1 : Int32) = nI 1 from rfl, pk_sub h]
def F_X1_reset_7 (n2 : Nat) : Nat → Nat → (Nat → Int32) → (Nat × (Nat → Int32))
  | 0, k7, fl => (n2, fl)
  | r7 + 1, k7, fl => F_X1_reset_7 n2 r7 (k7 + 1) (upd fl k7 0)
def fX1_reset (fl : Nat → Int32) (n2 : Nat) : Nat × (Nat → Int32) := F_X1_reset_7 n2 (n2 - 0) 0 fl
abbrev rmX1_reset : Room := { frames := 0, cells := 0, slots := 0, locals := 0 }
set_option maxHeartbeats 4000000 in
set_option maxRecDepth 100000 in
theorem c_X1_reset (l : Launch) (D : va_G) (cI : ClassId) (sz : Nat) (h : Nat) (t : Nat) (fl : Nat → Int32) (fn : Nat) (n2 : Nat) (hn2 : n2 ≤ 24) : Met l yX1_reset wsX1_reset rmX1_reset (va_Pc [.ref h, .int (nI n2)] (wrP D [(cI, .int)] [(h, .inr (0, [.ref t, .int (nI fn)])), (t, .inl (cI, 24, .inl fl))] sz)) (va_Qv (fun (_ : Unit) => True) (fun _ u9 => va_P D vwCl [(h, .inr (0, [.ref t, .int (nI ((fX1_reset fl n2).1))])), (t, .inl (cI, 24, .inl ((fX1_reset fl n2).2)))] u9.heap) (va_A [(h, .inr (0, [.ref t, .int (nI fn)])), (t, .inl (cI, 24, .inl fl))] sz)) 0 0 (va_A [(h, .inr (0, [.ref t, .int (nI fn)])), (t, .inl (cI, 24, .inl fl))] sz) := by
  generalize hF : fX1_reset fl n2 = T
  refine Met.ofW (cc := cX1_reset) (maxL := 3) (ret := none) (by decide) rfl ?_
  intro p e s m args below meth c s₁ B hml hv
  obtain ⟨rfl, hsz, hP, hK, hD0⟩ := hv
  have hx := B.exec
  have hb := B.bytes
  have hr := B.returns
  have hts := atoms_spec (ws := wsX1_reset) B.pre
  have hown : s.vm.findClass RX1 = some m.cls := findClass_of_methodNamed B.named
  have hlocks := B.notSynchronized
  have hinX1 : ∀ w ∈ u_ws RX1 TX1 2, w ∈ wsX1_reset := by decide +kernel
  have hf13 := hts (.fieldLink RX1 13 "PulseSigns$Filter" "length" "I") (by decide +kernel)
  have hf9 := hts (.fieldLink RX1 9 "PulseSigns$Filter" "numbers" "[I") (by decide +kernel)
  subst hsz
  have hD := hD0.self (sz := s.heap.size)
  generalize hAe : va_A [(h, .inr (0, [.ref t, .int (nI fn)])), (t, .inl (cI, 24, .inl fl))] s.heap.size = A at hD ⊢
  have hA : ∀ q : Nat, s.heap.size ≤ q → A q := fun q h => by rw [← hAe]; exact Or.inr h
  have hS : va_S A s.heap s.heap [] := va_S.rf
  have hP : va_P D vwCl [(h, .inr (0, [.ref t, .int (nI fn)])), (t, .inl (cI, 24, .inl fl))] s.heap := hP
  have hl := lv_entry ([.ref h, .int (nI n2)]) (n := 3) (Nat.le_of_ble_eq_true rfl)
  rw [lg_entry_eq]
  generalize (lg_sl ([.ref h, .int (nI n2)]) ++ List.replicate (3 - (lg_sl ([.ref h, .int (nI n2)])).length) Slot.unset).toArray = ls at hl ⊢
  refine w_Q (fun Q hQ => ?_)
  have hl : lv_has ls 3 [(0, .ref h), (1, .int (nI n2))] := hl
  rw [fX1_reset] at hF
  refine lv_aload_n hx hb dX1_reset_0 rfl (lv_at hl 0 rfl) ?_
  refine lv_iload_n hx hb dX1_reset_1 rfl (lv_at hl 1 rfl) ?_
  refine va_put (D := D) (ci := 0) (v := .int (nI n2)) (ty := .int) (C := RX1) (T := TX1) (N := 2) hx hb hts hinX1 tyX1 tyX1_ok nmX1 hown hK.1 hP hD hS 0 rfl rfl 1 (by decide) hf13 (fun _ h9 => h9) rfl (by decide +kernel) rfl rfl (Nat.le_of_ble_eq_true rfl) dX1_reset_2 (fun H locs hP hD hS => ?_)
  have hP : va_P D vwCl [(h, .inr (0, [.ref t, .int (nI n2)])), (t, .inl (cI, 24, .inl fl))] H := hP
  have hD : va_D A [(h, .inr (0, [.ref t, .int (nI n2)])), (t, .inl (cI, 24, .inl fl))] := hD
  refine lv_iconst (v := 0) hx hb dX1_reset_5 (by decide) ?_
  refine lv_istore_n (lv' := [(2, .int 0), (0, .ref h), (1, .int (nI n2))]) hx hb dX1_reset_6 rfl hl (by decide) rfl (fun ls hl => ?_)
  have lp7 : ∀ (r7 k7 : Nat) (fl : Nat → Int32) (H : Heap) (locs : List Loc) (ls : Array Slot), r7 = n2 - k7 → k7 ≤ n2 + 1 → va_P D vwCl [(h, .inr (0, [.ref t, .int (nI n2)])), (t, .inl (cI, 24, .inl fl))] H → va_D A [(h, .inr (0, [.ref t, .int (nI n2)])), (t, .inl (cI, 24, .inl fl))] → va_S A s.heap H locs → lv_has ls 3 [(0, .ref h), (1, .int (nI n2)), (2, .int (nI k7))] → F_X1_reset_7 n2 r7 k7 fl = T → W p l e (headSpec wsX1_reset rmX1_reset).room s m ([.ref h, .int (nI n2)] : List Value).toArray below meth c H locs 0 0 Q (F0 m 7 ls []) := by
    intro r7
    induction r7 with
    | zero =>
      intro k7 fl H locs ls hi7_0 hi7_1 hP hD hS hl hF
      rw [F_X1_reset_7] at hF
      refine lv_iload_n hx hb dX1_reset_7 rfl (lv_at hl 2 rfl) ?_
      refine lv_iload_n hx hb dX1_reset_8 rfl (lv_at hl 1 rfl) ?_
      refine lv_icmp_ge (tgt := 25) hx hb dX1_reset_9 (by decide) (fun c9 => ?_) (fun c9 => ?_)
      · skip
        subst hF
        subst hQ
        exact W.vret hx hb hr (fun u9 ht hW => ⟨⟨(), rfl, trivial, by rw [← ht] at hP; exact hP⟩, hS.F ht⟩) hS.2.2 dX1_reset_25
      · exact False.elim (c9 (nI_le (a := n2) (b := k7) (by omega) (by omega)))
    | succ r7 ih7 =>
      intro k7 fl H locs ls hi7_0 hi7_1 hP hD hS hl hF
      rw [F_X1_reset_7] at hF
      refine lv_iload_n hx hb dX1_reset_7 rfl (lv_at hl 2 rfl) ?_
      refine lv_iload_n hx hb dX1_reset_8 rfl (lv_at hl 1 rfl) ?_
      refine lv_icmp_ge (tgt := 25) hx hb dX1_reset_9 (by decide) (fun c9 => ?_) (fun c9 => ?_)
      · exact False.elim (nI_ge (a := k7) (b := n2) (by omega) (by omega) c9)
      · skip
        refine lv_aload_n hx hb dX1_reset_12 rfl (lv_at hl 0 rfl) ?_
        refine va_get (D := D) (ci := 0) (v := .ref t) (C := RX1) (T := TX1) (N := 2) hx hb hts hinX1 hown hK.1 hP 0 rfl rfl 0 (by decide) hf9 (fun _ h9 => h9) rfl dX1_reset_13 ?_
        refine lv_iload_n hx hb dX1_reset_16 rfl (lv_at hl 2 rfl) ?_
        refine lv_iconst (v := 0) hx hb dX1_reset_17 (by decide) ?_
        refine w_ast hx hb hK hP hD hS 1 0 rfl rfl (k7) rfl (by omega) (by omega) dX1_reset_18 (fun H locs hP hD hS => ?_)
        have hP : va_P D vwCl [(h, .inr (0, [.ref t, .int (nI n2)])), (t, .inl (cI, 24, .inl (upd fl k7 0)))] H := hP
        have hD : va_D A [(h, .inr (0, [.ref t, .int (nI n2)])), (t, .inl (cI, 24, .inl (upd fl k7 0)))] := hD
        refine lv_iinc (v := nI (k7 + 1)) (lv' := [(2, .int (nI (k7 + 1))), (0, .ref h), (1, .int (nI n2))]) hx hb dX1_reset_19 hl (k := 2) rfl (nI_1 _) (by decide) rfl (fun ls hl => ?_)
        refine lv_goto (tgt := 7) hx hb dX1_reset_22 (by decide) ?_
        exact ih7 (k7 + 1) (upd fl k7 0) H locs ls (by omega) (by omega) hP hD hS (lv_sub hl [1, 2, 0] rfl) hF
  exact lp7 (n2 - 0) 0 fl H _ ls rfl (by omega) hP hD hS (lv_sub hl [1, 2, 0] rfl) hF
def F_X1_matchTo_10 (tr : Nat → Int32) (n : Nat) : Nat → Nat → (Nat → Int32) → (Nat × (Nat → Int32))
  | 0, k10, fl => (n, fl)
  | r10 + 1, k10, fl => F_X1_matchTo_10 tr n r10 (k10 + 1) (upd fl k10 (fX6_partOfTurn (-(tr (n - 1 - k10))) 0))
def fX1_matchTo (fl : Nat → Int32) (tr : Nat → Int32) (n : Nat) : Nat × (Nat → Int32) := F_X1_matchTo_10 tr n (n - 0) 0 fl
abbrev rmX1_matchTo : Room := { frames := 1, cells := 0, slots := 0, locals := 22 }
set_option maxHeartbeats 4000000 in
set_option maxRecDepth 100000 in
theorem c_X1_matchTo (l : Launch) (D : va_G) (cI : ClassId) (sz : Nat) (h : Nat) (t : Nat) (fl : Nat → Int32) (fn : Nat) (h2 : Nat) (t2 : Nat) (tr : Nat → Int32) (n : Nat) (hn : n ≤ 16) : Met l yX1_matchTo wsX1_matchTo rmX1_matchTo (va_Pc [.ref h, .ref h2] (wrP D [(cI, .int)] [(h, .inr (0, [.ref t, .int (nI fn)])), (t, .inl (cI, 24, .inl fl)), (h2, .inr (3, [.ref t2, .int (nI n)])), (t2, .inl (cI, 16, .inl tr))] sz)) (va_Qv (fun (_ : Unit) => True) (fun _ u9 => va_P D vwCl [(h, .inr (0, [.ref t, .int (nI ((fX1_matchTo fl tr n).1))])), (t, .inl (cI, 24, .inl ((fX1_matchTo fl tr n).2))), (h2, .inr (3, [.ref t2, .int (nI n)])), (t2, .inl (cI, 16, .inl tr))] u9.heap) (va_A [(h, .inr (0, [.ref t, .int (nI fn)])), (t, .inl (cI, 24, .inl fl)), (h2, .inr (3, [.ref t2, .int (nI n)])), (t2, .inl (cI, 16, .inl tr))] sz)) 0 0 (va_A [(h, .inr (0, [.ref t, .int (nI fn)])), (t, .inl (cI, 24, .inl fl)), (h2, .inr (3, [.ref t2, .int (nI n)])), (t2, .inl (cI, 16, .inl tr))] sz) := by
  generalize hF : fX1_matchTo fl tr n = T
  refine Met.ofW (cc := cX1_matchTo) (maxL := 3) (ret := none) (by decide) rfl ?_
  intro p e s m args below meth c s₁ B hml hv
  obtain ⟨rfl, hsz, hP, hK, hD0⟩ := hv
  have hx := B.exec
  have hb := B.bytes
  have hr := B.returns
  have hts := atoms_spec (ws := wsX1_matchTo) B.pre
  have hown : s.vm.findClass RX1 = some m.cls := findClass_of_methodNamed B.named
  have hlocks := B.notSynchronized
  have hinX1 : ∀ w ∈ u_ws RX1 TX1 2, w ∈ wsX1_matchTo := by decide +kernel
  have hinX5 : ∀ w ∈ u_ws RX5 TX5 2, w ∈ wsX1_matchTo := by decide +kernel
  have hf17 := hts (.fieldLink RX1 17 "PulseSigns$Sign" "length" "I") (by decide +kernel)
  have hf13 := hts (.fieldLink RX1 13 "PulseSigns$Filter" "length" "I") (by decide +kernel)
  have hf9 := hts (.fieldLink RX1 9 "PulseSigns$Filter" "numbers" "[I") (by decide +kernel)
  have hf20 := hts (.fieldLink RX1 20 "PulseSigns$Sign" "turns" "[I") (by decide +kernel)
  have hiniX6 := hts (.initialized RX6) (by decide +kernel)
  have hst_X6_partOfTurn := hts (.static yX6_partOfTurn) (by decide +kernel)
  subst hsz
  have hD := hD0.self (sz := s.heap.size)
  generalize hAe : va_A [(h, .inr (0, [.ref t, .int (nI fn)])), (t, .inl (cI, 24, .inl fl)), (h2, .inr (3, [.ref t2, .int (nI n)])), (t2, .inl (cI, 16, .inl tr))] s.heap.size = A at hD ⊢
  have hA : ∀ q : Nat, s.heap.size ≤ q → A q := fun q h => by rw [← hAe]; exact Or.inr h
  have hS : va_S A s.heap s.heap [] := va_S.rf
  have hP : va_P D vwCl [(h, .inr (0, [.ref t, .int (nI fn)])), (t, .inl (cI, 24, .inl fl)), (h2, .inr (3, [.ref t2, .int (nI n)])), (t2, .inl (cI, 16, .inl tr))] s.heap := hP
  have hl := lv_entry ([.ref h, .ref h2]) (n := 3) (Nat.le_of_ble_eq_true rfl)
  rw [lg_entry_eq]
  generalize (lg_sl ([.ref h, .ref h2]) ++ List.replicate (3 - (lg_sl ([.ref h, .ref h2])).length) Slot.unset).toArray = ls at hl ⊢
  refine w_Q (fun Q hQ => ?_)
  have hl : lv_has ls 3 [(0, .ref h), (1, .ref h2)] := hl
  rw [fX1_matchTo] at hF
  refine lv_aload_n hx hb dX1_matchTo_0 rfl (lv_at hl 0 rfl) ?_
  refine lv_aload_n hx hb dX1_matchTo_1 rfl (lv_at hl 1 rfl) ?_
  refine va_get (D := D) (ci := 3) (v := .int (nI n)) (C := RX5) (T := TX5) (N := 2) hx hb hts hinX5 hown hK.1 hP 2 rfl rfl 1 (by decide) hf17 (fun _ h9 => h9) rfl dX1_matchTo_2 ?_
  refine va_put (D := D) (ci := 0) (v := .int (nI n)) (ty := .int) (C := RX1) (T := TX1) (N := 2) hx hb hts hinX1 tyX1 tyX1_ok nmX1 hown hK.1 hP hD hS 0 rfl rfl 1 (by decide) hf13 (fun _ h9 => h9) rfl (by decide +kernel) rfl rfl (Nat.le_of_ble_eq_true rfl) dX1_matchTo_5 (fun H locs hP hD hS => ?_)
  have hP : va_P D vwCl [(h, .inr (0, [.ref t, .int (nI n)])), (t, .inl (cI, 24, .inl fl)), (h2, .inr (3, [.ref t2, .int (nI n)])), (t2, .inl (cI, 16, .inl tr))] H := hP
  have hD : va_D A [(h, .inr (0, [.ref t, .int (nI n)])), (t, .inl (cI, 24, .inl fl)), (h2, .inr (3, [.ref t2, .int (nI n)])), (t2, .inl (cI, 16, .inl tr))] := hD
  refine lv_iconst (v := 0) hx hb dX1_matchTo_8 (by decide) ?_
  refine lv_istore_n (lv' := [(2, .int 0), (0, .ref h), (1, .ref h2)]) hx hb dX1_matchTo_9 rfl hl (by decide) rfl (fun ls hl => ?_)
  have lp10 : ∀ (r10 k10 : Nat) (fl : Nat → Int32) (H : Heap) (locs : List Loc) (ls : Array Slot), r10 = n - k10 → k10 ≤ n + 1 → va_P D vwCl [(h, .inr (0, [.ref t, .int (nI n)])), (t, .inl (cI, 24, .inl fl)), (h2, .inr (3, [.ref t2, .int (nI n)])), (t2, .inl (cI, 16, .inl tr))] H → va_D A [(h, .inr (0, [.ref t, .int (nI n)])), (t, .inl (cI, 24, .inl fl)), (h2, .inr (3, [.ref t2, .int (nI n)])), (t2, .inl (cI, 16, .inl tr))] → va_S A s.heap H locs → lv_has ls 3 [(0, .ref h), (1, .ref h2), (2, .int (nI k10))] → F_X1_matchTo_10 tr n r10 k10 fl = T → W p l e (headSpec wsX1_matchTo rmX1_matchTo).room s m ([.ref h, .ref h2] : List Value).toArray below meth c H locs 0 0 Q (F0 m 10 ls []) := by
    intro r10
    induction r10 with
    | zero =>
      intro k10 fl H locs ls hi10_0 hi10_1 hP hD hS hl hF
      rw [F_X1_matchTo_10] at hF
      refine lv_iload_n hx hb dX1_matchTo_10 rfl (lv_at hl 2 rfl) ?_
      refine lv_aload_n hx hb dX1_matchTo_11 rfl (lv_at hl 1 rfl) ?_
      refine va_get (D := D) (ci := 3) (v := .int (nI n)) (C := RX5) (T := TX5) (N := 2) hx hb hts hinX5 hown hK.1 hP 2 rfl rfl 1 (by decide) hf17 (fun _ h9 => h9) rfl dX1_matchTo_12 ?_
      refine lv_icmp_ge (tgt := 48) hx hb dX1_matchTo_15 (by decide) (fun c15 => ?_) (fun c15 => ?_)
      · skip
        subst hF
        subst hQ
        exact W.vret hx hb hr (fun u9 ht hW => ⟨⟨(), rfl, trivial, by rw [← ht] at hP; exact hP⟩, hS.F ht⟩) hS.2.2 dX1_matchTo_48
      · exact False.elim (c15 (nI_le (a := n) (b := k10) (by omega) (by omega)))
    | succ r10 ih10 =>
      intro k10 fl H locs ls hi10_0 hi10_1 hP hD hS hl hF
      rw [F_X1_matchTo_10] at hF
      refine lv_iload_n hx hb dX1_matchTo_10 rfl (lv_at hl 2 rfl) ?_
      refine lv_aload_n hx hb dX1_matchTo_11 rfl (lv_at hl 1 rfl) ?_
      refine va_get (D := D) (ci := 3) (v := .int (nI n)) (C := RX5) (T := TX5) (N := 2) hx hb hts hinX5 hown hK.1 hP 2 rfl rfl 1 (by decide) hf17 (fun _ h9 => h9) rfl dX1_matchTo_12 ?_
      refine lv_icmp_ge (tgt := 48) hx hb dX1_matchTo_15 (by decide) (fun c15 => ?_) (fun c15 => ?_)
      · exact False.elim (nI_ge (a := k10) (b := n) (by omega) (by omega) c15)
      · skip
        refine lv_aload_n hx hb dX1_matchTo_18 rfl (lv_at hl 0 rfl) ?_
        refine va_get (D := D) (ci := 0) (v := .ref t) (C := RX1) (T := TX1) (N := 2) hx hb hts hinX1 hown hK.1 hP 0 rfl rfl 0 (by decide) hf9 (fun _ h9 => h9) rfl dX1_matchTo_19 ?_
        refine lv_iload_n hx hb dX1_matchTo_22 rfl (lv_at hl 2 rfl) ?_
        refine lv_aload_n hx hb dX1_matchTo_23 rfl (lv_at hl 1 rfl) ?_
        refine va_get (D := D) (ci := 3) (v := .ref t2) (C := RX5) (T := TX5) (N := 2) hx hb hts hinX5 hown hK.1 hP 2 rfl rfl 0 (by decide) hf20 (fun _ h9 => h9) rfl dX1_matchTo_24 ?_
        refine lv_aload_n hx hb dX1_matchTo_27 rfl (lv_at hl 1 rfl) ?_
        refine va_get (D := D) (ci := 3) (v := .int (nI n)) (C := RX5) (T := TX5) (N := 2) hx hb hts hinX5 hown hK.1 hP 2 rfl rfl 1 (by decide) hf17 (fun _ h9 => h9) rfl dX1_matchTo_28 ?_
        refine lv_iconst (v := 1) hx hb dX1_matchTo_31 (by decide) ?_
        refine lv_isub hx hb dX1_matchTo_32 ?_
        refine lv_iload_n hx hb dX1_matchTo_33 rfl (lv_at hl 2 rfl) ?_
        refine lv_isub hx hb dX1_matchTo_34 ?_
        refine w_ald hx hb hK hP 3 0 rfl rfl (n - 1 - k10) (nI_sub1k (by omega)) (by omega) (by omega) dX1_matchTo_35 ?_
        refine lv_ineg hx hb dX1_matchTo_36 ?_
        refine lv_iconst (v := 0) hx hb dX1_matchTo_37 (by decide) ?_
        have hPc := hP.sub (ws' := []) [] rfl
        refine cs_i (va_runSN (As := [.int (-(tr (n - 1 - k10))), .int 0]) (rest := [.int (nI k10), .ref t]) ⟨hx, hb, hml, hown, hts⟩ (c_X6_partOfTurn l D cI (-(tr (n - 1 - k10))) 0 ) ⟨va_cnB 2 hts gX1_matchTo_X6_partOfTurn_n23 rfl rfl rfl hK.2.2.2.2.2.1 hiniX6 (by decide +kernel) ⟨(Nat.le_of_ble_eq_true rfl), (Nat.le_of_ble_eq_true rfl)⟩, hst_X6_partOfTurn, trivial⟩ (ro_pre hPc hK) rfl rfl hl.1 rfl (lv_room (Nat.le_of_ble_eq_true rfl)) dX1_matchTo_38 ⟨Nat.zero_le _, Nat.zero_le _⟩) ?_
        refine w_ast hx hb hK hP hD hS 1 0 rfl rfl (k10) rfl (by omega) (by omega) dX1_matchTo_41 (fun H locs hP hD hS => ?_)
        have hP : va_P D vwCl [(h, .inr (0, [.ref t, .int (nI n)])), (t, .inl (cI, 24, .inl (upd fl k10 (fX6_partOfTurn (-(tr (n - 1 - k10))) 0)))), (h2, .inr (3, [.ref t2, .int (nI n)])), (t2, .inl (cI, 16, .inl tr))] H := hP
        have hD : va_D A [(h, .inr (0, [.ref t, .int (nI n)])), (t, .inl (cI, 24, .inl (upd fl k10 (fX6_partOfTurn (-(tr (n - 1 - k10))) 0)))), (h2, .inr (3, [.ref t2, .int (nI n)])), (t2, .inl (cI, 16, .inl tr))] := hD
        refine lv_iinc (v := nI (k10 + 1)) (lv' := [(2, .int (nI (k10 + 1))), (0, .ref h), (1, .ref h2)]) hx hb dX1_matchTo_42 hl (k := 2) rfl (nI_1 _) (by decide) rfl (fun ls hl => ?_)
        refine lv_goto (tgt := 10) hx hb dX1_matchTo_45 (by decide) ?_
        exact ih10 (k10 + 1) (upd fl k10 (fX6_partOfTurn (-(tr (n - 1 - k10))) 0)) H locs ls (by omega) (by omega) hP hD hS (lv_sub hl [1, 2, 0] rfl) hF
  exact lp10 (n - 0) 0 fl H _ ls rfl (by omega) hP hD hS (lv_sub hl [1, 2, 0] rfl) hF
def F_X1_answerPart_6 (fl : Nat → Int32) (tr : Nat → Int32) (n : Nat) (kk : Int32) (pt : Int32) : Nat → Nat → Int32 → Int32
  | 0, k6, x4 => x4
  | r6 + 1, k6, x4 => (if (fX5_has n (kk - (nI k6))) = 0 then F_X1_answerPart_6 fl tr n kk pt r6 (k6 + 1) x4 else F_X1_answerPart_6 fl tr n kk pt r6 (k6 + 1) (x4 + ((fl k6) * (fX6_partOfTurn (tr (kk - (nI k6)).toNatClampNeg) pt))))
def fX1_answerPart (fl : Nat → Int32) (fn : Nat) (tr : Nat → Int32) (n : Nat) (kk : Int32) (pt : Int32) : Int32 := F_X1_answerPart_6 fl tr n kk pt (fn - 0) 0 0
abbrev rmX1_answerPart : Room := { frames := 2, cells := 0, slots := 0, locals := 43 }
set_option maxHeartbeats 4000000 in
set_option maxRecDepth 100000 in
theorem c_X1_answerPart (l : Launch) (D : va_G) (cI : ClassId) (h : Nat) (t : Nat) (fl : Nat → Int32) (fn : Nat) (h2 : Nat) (t2 : Nat) (tr : Nat → Int32) (n : Nat) (kk : Int32) (pt : Int32) (hfn : fn ≤ 24) (hn : n ≤ 16) (hn1 : 1 ≤ n) : Met l yX1_answerPart wsX1_answerPart rmX1_answerPart (va_Pc [.ref h, .ref h2, .int kk, .int pt] (roP D [(cI, .int)] [(h, .inr (0, [.ref t, .int (nI fn)])), (t, .inl (cI, 24, .inl fl)), (h2, .inr (3, [.ref t2, .int (nI n)])), (t2, .inl (cI, 16, .inl tr))])) (vp_Si (fun r9 => r9 = fX1_answerPart fl fn tr n kk pt)) 0 0 (fun _ => False) := by
  generalize hF : fX1_answerPart fl fn tr n kk pt = T
  refine Met.ofW (cc := cX1_answerPart) (maxL := 6) (ret := (some .int)) (by decide) rfl ?_
  intro p e s m args below meth c s₁ B hml hv
  obtain ⟨rfl, hP, hK⟩ := hv
  have hx := B.exec
  have hb := B.bytes
  have hr := B.returns
  have hts := atoms_spec (ws := wsX1_answerPart) B.pre
  have hown : s.vm.findClass RX1 = some m.cls := findClass_of_methodNamed B.named
  have hlocks := B.notSynchronized
  have hinX1 : ∀ w ∈ u_ws RX1 TX1 2, w ∈ wsX1_answerPart := by decide +kernel
  have hinX5 : ∀ w ∈ u_ws RX5 TX5 2, w ∈ wsX1_answerPart := by decide +kernel
  have hf13 := hts (.fieldLink RX1 13 "PulseSigns$Filter" "length" "I") (by decide +kernel)
  have hf9 := hts (.fieldLink RX1 9 "PulseSigns$Filter" "numbers" "[I") (by decide +kernel)
  have hf20 := hts (.fieldLink RX1 20 "PulseSigns$Sign" "turns" "[I") (by decide +kernel)
  have hiniX6 := hts (.initialized RX6) (by decide +kernel)
  have hst_X6_partOfTurn := hts (.static yX6_partOfTurn) (by decide +kernel)
  have hl := lv_entry ([.ref h, .ref h2, .int kk, .int pt]) (n := 6) (Nat.le_of_ble_eq_true rfl)
  rw [lg_entry_eq]
  generalize (lg_sl ([.ref h, .ref h2, .int kk, .int pt]) ++ List.replicate (6 - (lg_sl ([.ref h, .ref h2, .int kk, .int pt])).length) Slot.unset).toArray = ls at hl ⊢
  refine w_Q (fun Q hQ => ?_)
  have hl : lv_has ls 6 [(0, .ref h), (1, .ref h2), (2, .int kk), (3, .int pt)] := hl
  rw [fX1_answerPart] at hF
  refine lv_iconst (v := 0) hx hb dX1_answerPart_0 (by decide) ?_
  refine lv_istore (lv' := [(4, .int 0), (0, .ref h), (1, .ref h2), (2, .int kk), (3, .int pt)]) hx hb dX1_answerPart_1 hl (by decide) rfl (fun ls hl => ?_)
  refine lv_iconst (v := 0) hx hb dX1_answerPart_3 (by decide) ?_
  refine lv_istore (lv' := [(5, .int 0), (4, .int 0), (0, .ref h), (1, .ref h2), (2, .int kk), (3, .int pt)]) hx hb dX1_answerPart_4 hl (by decide) rfl (fun ls hl => ?_)
  have lp6 : ∀ (r6 k6 : Nat) (x4 : Int32) (ls : Array Slot), r6 = fn - k6 → k6 ≤ fn + 1 → lv_has ls 6 [(0, .ref h), (1, .ref h2), (2, .int kk), (3, .int pt), (4, .int x4), (5, .int (nI k6))] → F_X1_answerPart_6 fl tr n kk pt r6 k6 x4 = T → W p l e (headSpec wsX1_answerPart rmX1_answerPart).room s m ([.ref h, .ref h2, .int kk, .int pt] : List Value).toArray below meth c s.heap [] 0 0 Q (F0 m 6 ls []) := by
    intro r6
    induction r6 with
    | zero =>
      intro k6 x4 ls hi6_0 hi6_1 hl hF
      rw [F_X1_answerPart_6] at hF
      refine lv_iload hx hb dX1_answerPart_6 (lv_at hl 5 rfl) ?_
      refine lv_aload_n hx hb dX1_answerPart_8 rfl (lv_at hl 0 rfl) ?_
      refine va_get (D := D) (ci := 0) (v := .int (nI fn)) (C := RX1) (T := TX1) (N := 2) hx hb hts hinX1 hown hK.1 hP 0 rfl rfl 1 (by decide) hf13 (fun _ h9 => h9) rfl dX1_answerPart_9 ?_
      refine lv_icmp_ge (tgt := 58) hx hb dX1_answerPart_12 (by decide) (fun c12 => ?_) (fun c12 => ?_)
      · skip
        refine lv_iload hx hb dX1_answerPart_58 (lv_at hl 4 rfl) ?_
        subst hQ
        exact W.iret (v := x4) hx hb hr (fun u9 ht hW => ⟨_, rfl, hF, ht⟩) (fun q hq => by cases hq) dX1_answerPart_60
      · exact False.elim (c12 (nI_le (a := fn) (b := k6) (by omega) (by omega)))
    | succ r6 ih6 =>
      intro k6 x4 ls hi6_0 hi6_1 hl hF
      rw [F_X1_answerPart_6] at hF
      refine lv_iload hx hb dX1_answerPart_6 (lv_at hl 5 rfl) ?_
      refine lv_aload_n hx hb dX1_answerPart_8 rfl (lv_at hl 0 rfl) ?_
      refine va_get (D := D) (ci := 0) (v := .int (nI fn)) (C := RX1) (T := TX1) (N := 2) hx hb hts hinX1 hown hK.1 hP 0 rfl rfl 1 (by decide) hf13 (fun _ h9 => h9) rfl dX1_answerPart_9 ?_
      refine lv_icmp_ge (tgt := 58) hx hb dX1_answerPart_12 (by decide) (fun c12 => ?_) (fun c12 => ?_)
      · exact False.elim (nI_ge (a := k6) (b := fn) (by omega) (by omega) c12)
      · skip
        refine lv_aload_n hx hb dX1_answerPart_15 rfl (lv_at hl 1 rfl) ?_
        refine lv_iload_n hx hb dX1_answerPart_16 rfl (lv_at hl 2 rfl) ?_
        refine lv_iload hx hb dX1_answerPart_17 (lv_at hl 5 rfl) ?_
        refine lv_isub hx hb dX1_answerPart_19 ?_
        have hPc := hP.sub (ws' := [(h2, .inr (3, [.ref t2, .int (nI n)])), (t2, .inl (cI, 16, .inl tr))]) [2, 3] rfl
        refine cs_i (va_runV (As := [.int (kk - (nI k6))]) (rest := []) ⟨hx, hb, hml, hown, hts⟩ (c_X5_has l D cI h2 t2 tr n (kk - (nI k6)) ) (cwV 1 hts gX1_answerPart_X5_has rfl rfl rfl (by decide +kernel) ⟨(Nat.le_of_ble_eq_true rfl), (Nat.le_of_ble_eq_true rfl)⟩) (ro_preV hPc hK rfl (q0 := 0) rfl) rfl rfl hl.1 rfl (lv_room (Nat.le_of_ble_eq_true rfl)) dX1_answerPart_20 ⟨Nat.zero_le _, Nat.zero_le _⟩) ?_
        refine lv_if_eq (tgt := 52) hx hb dX1_answerPart_23 (by decide) (fun c23 => ?_) (fun c23 => ?_)
        · rw [if_pos c23] at hF
          refine lv_iinc (v := nI (k6 + 1)) (lv' := [(5, .int (nI (k6 + 1))), (0, .ref h), (1, .ref h2), (2, .int kk), (3, .int pt), (4, .int x4)]) hx hb dX1_answerPart_52 hl (k := 5) rfl (nI_1 _) (by decide) rfl (fun ls hl => ?_)
          refine lv_goto (tgt := 6) hx hb dX1_answerPart_55 (by decide) ?_
          exact ih6 (k6 + 1) x4 ls (by omega) (by omega)  (lv_sub hl [1, 2, 3, 4, 5, 0] rfl) hF
        · rw [if_neg c23] at hF
          refine lv_iload hx hb dX1_answerPart_26 (lv_at hl 4 rfl) ?_
          refine lv_aload_n hx hb dX1_answerPart_28 rfl (lv_at hl 0 rfl) ?_
          refine va_get (D := D) (ci := 0) (v := .ref t) (C := RX1) (T := TX1) (N := 2) hx hb hts hinX1 hown hK.1 hP 0 rfl rfl 0 (by decide) hf9 (fun _ h9 => h9) rfl dX1_answerPart_29 ?_
          refine lv_iload hx hb dX1_answerPart_32 (lv_at hl 5 rfl) ?_
          refine w_ald hx hb hK hP 1 0 rfl rfl (k6) rfl (by omega) (by omega) dX1_answerPart_34 ?_
          refine lv_aload_n hx hb dX1_answerPart_35 rfl (lv_at hl 1 rfl) ?_
          refine va_get (D := D) (ci := 3) (v := .ref t2) (C := RX5) (T := TX5) (N := 2) hx hb hts hinX5 hown hK.1 hP 2 rfl rfl 0 (by decide) hf20 (fun _ h9 => h9) rfl dX1_answerPart_36 ?_
          refine lv_iload_n hx hb dX1_answerPart_39 rfl (lv_at hl 2 rfl) ?_
          refine lv_iload hx hb dX1_answerPart_40 (lv_at hl 5 rfl) ?_
          refine lv_isub hx hb dX1_answerPart_42 ?_
          refine va_iald hx hb hK.1 hP 3 0 rfl rfl (has_in c23 hn) dX1_answerPart_43 ?_
          refine lv_iload_n hx hb dX1_answerPart_44 rfl (lv_at hl 3 rfl) ?_
          have hPc := hP.sub (ws' := []) [] rfl
          refine cs_i (va_runSN (As := [.int (tr (kk - (nI k6)).toNatClampNeg), .int pt]) (rest := [.int (fl k6), .int x4]) ⟨hx, hb, hml, hown, hts⟩ (c_X6_partOfTurn l D cI (tr (kk - (nI k6)).toNatClampNeg) pt ) ⟨va_cnB 2 hts gX1_answerPart_X6_partOfTurn_n23 rfl rfl rfl hK.2.2.2.2.2.1 hiniX6 (by decide +kernel) ⟨(Nat.le_of_ble_eq_true rfl), (Nat.le_of_ble_eq_true rfl)⟩, hst_X6_partOfTurn, trivial⟩ (ro_pre hPc hK) rfl rfl hl.1 rfl (lv_room (Nat.le_of_ble_eq_true rfl)) dX1_answerPart_45 ⟨Nat.zero_le _, Nat.zero_le _⟩) ?_
          refine lv_imul hx hb dX1_answerPart_48 ?_
          refine lv_iadd hx hb dX1_answerPart_49 ?_
          refine lv_istore (lv' := [(4, .int (x4 + ((fl k6) * (fX6_partOfTurn (tr (kk - (nI k6)).toNatClampNeg) pt)))), (0, .ref h), (1, .ref h2), (2, .int kk), (3, .int pt), (5, .int (nI k6))]) hx hb dX1_answerPart_50 hl (by decide) rfl (fun ls hl => ?_)
          refine lv_iinc (v := nI (k6 + 1)) (lv' := [(5, .int (nI (k6 + 1))), (4, .int (x4 + ((fl k6) * (fX6_partOfTurn (tr (kk - (nI k6)).toNatClampNeg) pt)))), (0, .ref h), (1, .ref h2), (2, .int kk), (3, .int pt)]) hx hb dX1_answerPart_52 hl (k := 5) rfl (nI_1 _) (by decide) rfl (fun ls hl => ?_)
          refine lv_goto (tgt := 6) hx hb dX1_answerPart_55 (by decide) ?_
          exact ih6 (k6 + 1) (x4 + ((fl k6) * (fX6_partOfTurn (tr (kk - (nI k6)).toNatClampNeg) pt))) ls (by omega) (by omega)  (lv_sub hl [2, 3, 4, 5, 1, 0] rfl) hF
  exact lp6 (fn - 0) 0 0 ls rfl (by omega)  (lv_sub hl [2, 3, 4, 5, 1, 0] rfl) hF
def fX1_answerSize (fl : Nat → Int32) (fn : Nat) (tr : Nat → Int32) (n : Nat) (kk : Int32) : Int32 := ((fX1_answerPart fl fn tr n kk 0) * (fX1_answerPart fl fn tr n kk 0)) + ((fX1_answerPart fl fn tr n kk 1) * (fX1_answerPart fl fn tr n kk 1))
abbrev rmX1_answerSize : Room := { frames := 3, cells := 0, slots := 0, locals := 68 }
set_option maxHeartbeats 4000000 in
set_option maxRecDepth 100000 in
theorem c_X1_answerSize (l : Launch) (D : va_G) (cI : ClassId) (h : Nat) (t : Nat) (fl : Nat → Int32) (fn : Nat) (h2 : Nat) (t2 : Nat) (tr : Nat → Int32) (n : Nat) (kk : Int32) (hfn : fn ≤ 24) (hn : n ≤ 16) (hn1 : 1 ≤ n) : Met l yX1_answerSize wsX1_answerSize rmX1_answerSize (va_Pc [.ref h, .ref h2, .int kk] (roP D [(cI, .int)] [(h, .inr (0, [.ref t, .int (nI fn)])), (t, .inl (cI, 24, .inl fl)), (h2, .inr (3, [.ref t2, .int (nI n)])), (t2, .inl (cI, 16, .inl tr))])) (vp_Si (fun r9 => r9 = fX1_answerSize fl fn tr n kk)) 0 0 (fun _ => False) := by
  generalize hF : fX1_answerSize fl fn tr n kk = T
  refine Met.ofW (cc := cX1_answerSize) (maxL := 5) (ret := (some .int)) (by decide) rfl ?_
  intro p e s m args below meth c s₁ B hml hv
  obtain ⟨rfl, hP, hK⟩ := hv
  have hx := B.exec
  have hb := B.bytes
  have hr := B.returns
  have hts := atoms_spec (ws := wsX1_answerSize) B.pre
  have hown : s.vm.findClass RX1 = some m.cls := findClass_of_methodNamed B.named
  have hlocks := B.notSynchronized
  have hl := lv_entry ([.ref h, .ref h2, .int kk]) (n := 5) (Nat.le_of_ble_eq_true rfl)
  rw [lg_entry_eq]
  generalize (lg_sl ([.ref h, .ref h2, .int kk]) ++ List.replicate (5 - (lg_sl ([.ref h, .ref h2, .int kk])).length) Slot.unset).toArray = ls at hl ⊢
  refine w_Q (fun Q hQ => ?_)
  have hl : lv_has ls 5 [(0, .ref h), (1, .ref h2), (2, .int kk)] := hl
  rw [fX1_answerSize] at hF
  refine lv_aload_n hx hb dX1_answerSize_0 rfl (lv_at hl 0 rfl) ?_
  refine lv_aload_n hx hb dX1_answerSize_1 rfl (lv_at hl 1 rfl) ?_
  refine lv_iload_n hx hb dX1_answerSize_2 rfl (lv_at hl 2 rfl) ?_
  refine lv_iconst (v := 0) hx hb dX1_answerSize_3 (by decide) ?_
  refine cs_i (va_runV (As := [.ref h2, .int kk, .int 0]) (rest := []) ⟨hx, hb, hml, hown, hts⟩ (c_X1_answerPart l D cI h t fl fn h2 t2 tr n kk 0 (by first | assumption | omega) (by first | assumption | omega) (by first | assumption | omega)) (cwV 3 hts gX1_answerSize_X1_answerPart rfl rfl rfl (by decide +kernel) ⟨(Nat.le_of_ble_eq_true rfl), (Nat.le_of_ble_eq_true rfl)⟩) (ro_preV hP hK rfl (q0 := 0) rfl) rfl rfl hl.1 rfl (lv_room (Nat.le_of_ble_eq_true rfl)) dX1_answerSize_4 ⟨Nat.zero_le _, Nat.zero_le _⟩) ?_
  refine lv_istore_n (lv' := [(3, .int (fX1_answerPart fl fn tr n kk 0)), (0, .ref h), (1, .ref h2), (2, .int kk)]) hx hb dX1_answerSize_7 rfl hl (by decide) rfl (fun ls hl => ?_)
  refine lv_aload_n hx hb dX1_answerSize_8 rfl (lv_at hl 1 rfl) ?_
  refine lv_aload_n hx hb dX1_answerSize_9 rfl (lv_at hl 2 rfl) ?_
  refine lv_iload_n hx hb dX1_answerSize_10 rfl (lv_at hl 3 rfl) ?_
  refine lv_iconst (v := 1) hx hb dX1_answerSize_11 (by decide) ?_
  refine cs_i (va_runV (As := [.ref h2, .int kk, .int 1]) (rest := []) ⟨hx, hb, hml, hown, hts⟩ (c_X1_answerPart l D cI h t fl fn h2 t2 tr n kk 1 (by first | assumption | omega) (by first | assumption | omega) (by first | assumption | omega)) (cwV 3 hts gX1_answerSize_X1_answerPart rfl rfl rfl (by decide +kernel) ⟨(Nat.le_of_ble_eq_true rfl), (Nat.le_of_ble_eq_true rfl)⟩) (ro_preV hP hK rfl (q0 := 0) rfl) rfl rfl hl.1 rfl (lv_room (Nat.le_of_ble_eq_true rfl)) dX1_answerSize_12 ⟨Nat.zero_le _, Nat.zero_le _⟩) ?_
  refine lv_istore (lv' := [(4, .int (fX1_answerPart fl fn tr n kk 1)), (3, .int (fX1_answerPart fl fn tr n kk 0)), (0, .ref h), (1, .ref h2), (2, .int kk)]) hx hb dX1_answerSize_15 hl (by decide) rfl (fun ls hl => ?_)
  refine lv_iload_n hx hb dX1_answerSize_17 rfl (lv_at hl 1 rfl) ?_
  refine lv_iload_n hx hb dX1_answerSize_18 rfl (lv_at hl 1 rfl) ?_
  refine lv_imul hx hb dX1_answerSize_19 ?_
  refine lv_iload hx hb dX1_answerSize_20 (lv_at hl 0 rfl) ?_
  refine lv_iload hx hb dX1_answerSize_22 (lv_at hl 0 rfl) ?_
  refine lv_imul hx hb dX1_answerSize_24 ?_
  refine lv_iadd hx hb dX1_answerSize_25 ?_
  subst hQ
  exact W.iret (v := ((fX1_answerPart fl fn tr n kk 0) * (fX1_answerPart fl fn tr n kk 0)) + ((fX1_answerPart fl fn tr n kk 1) * (fX1_answerPart fl fn tr n kk 1))) hx hb hr (fun u9 ht hW => ⟨_, rfl, hF, ht⟩) (fun q hq => by cases hq) dX1_answerSize_26
def F_X1_greatestPlace_12 (fl : Nat → Int32) (fn : Nat) (tr : Nat → Int32) (n : Nat) : Nat → Nat → Int32 → Int32 → Int32
  | 0, k12, x2, x3 => x2
  | r12 + 1, k12, x2, x3 => (if (fX1_answerSize fl fn tr n (nI k12)) ≤ x3 then F_X1_greatestPlace_12 fl fn tr n r12 (k12 + 1) x2 x3 else F_X1_greatestPlace_12 fl fn tr n r12 (k12 + 1) (nI k12) (fX1_answerSize fl fn tr n (nI k12)))
def fX1_greatestPlace (fl : Nat → Int32) (fn : Nat) (tr : Nat → Int32) (n : Nat) : Int32 := F_X1_greatestPlace_12 fl fn tr n ((fn + n - 1) - 1) 1 0 (fX1_answerSize fl fn tr n 0)
abbrev rmX1_greatestPlace : Room := { frames := 4, cells := 0, slots := 0, locals := 92 }
set_option maxHeartbeats 4000000 in
set_option maxRecDepth 100000 in
theorem c_X1_greatestPlace (l : Launch) (D : va_G) (cI : ClassId) (h : Nat) (t : Nat) (fl : Nat → Int32) (fn : Nat) (h2 : Nat) (t2 : Nat) (tr : Nat → Int32) (n : Nat) (hfn : fn ≤ 24) (hn : n ≤ 16) (hn1 : 1 ≤ n) : Met l yX1_greatestPlace wsX1_greatestPlace rmX1_greatestPlace (va_Pc [.ref h, .ref h2] (roP D [(cI, .int)] [(h, .inr (0, [.ref t, .int (nI fn)])), (t, .inl (cI, 24, .inl fl)), (h2, .inr (3, [.ref t2, .int (nI n)])), (t2, .inl (cI, 16, .inl tr))])) (vp_Si (fun r9 => r9 = fX1_greatestPlace fl fn tr n)) 0 0 (fun _ => False) := by
  generalize hF : fX1_greatestPlace fl fn tr n = T
  refine Met.ofW (cc := cX1_greatestPlace) (maxL := 6) (ret := (some .int)) (by decide) rfl ?_
  intro p e s m args below meth c s₁ B hml hv
  obtain ⟨rfl, hP, hK⟩ := hv
  have hx := B.exec
  have hb := B.bytes
  have hr := B.returns
  have hts := atoms_spec (ws := wsX1_greatestPlace) B.pre
  have hown : s.vm.findClass RX1 = some m.cls := findClass_of_methodNamed B.named
  have hlocks := B.notSynchronized
  have hinX1 : ∀ w ∈ u_ws RX1 TX1 2, w ∈ wsX1_greatestPlace := by decide +kernel
  have hinX5 : ∀ w ∈ u_ws RX5 TX5 2, w ∈ wsX1_greatestPlace := by decide +kernel
  have hf13 := hts (.fieldLink RX1 13 "PulseSigns$Filter" "length" "I") (by decide +kernel)
  have hf17 := hts (.fieldLink RX1 17 "PulseSigns$Sign" "length" "I") (by decide +kernel)
  have hl := lv_entry ([.ref h, .ref h2]) (n := 6) (Nat.le_of_ble_eq_true rfl)
  rw [lg_entry_eq]
  generalize (lg_sl ([.ref h, .ref h2]) ++ List.replicate (6 - (lg_sl ([.ref h, .ref h2])).length) Slot.unset).toArray = ls at hl ⊢
  refine w_Q (fun Q hQ => ?_)
  have hl : lv_has ls 6 [(0, .ref h), (1, .ref h2)] := hl
  rw [fX1_greatestPlace] at hF
  refine lv_iconst (v := 0) hx hb dX1_greatestPlace_0 (by decide) ?_
  refine lv_istore_n (lv' := [(2, .int 0), (0, .ref h), (1, .ref h2)]) hx hb dX1_greatestPlace_1 rfl hl (by decide) rfl (fun ls hl => ?_)
  refine lv_aload_n hx hb dX1_greatestPlace_2 rfl (lv_at hl 1 rfl) ?_
  refine lv_aload_n hx hb dX1_greatestPlace_3 rfl (lv_at hl 2 rfl) ?_
  refine lv_iconst (v := 0) hx hb dX1_greatestPlace_4 (by decide) ?_
  refine cs_i (va_runV (As := [.ref h2, .int 0]) (rest := []) ⟨hx, hb, hml, hown, hts⟩ (c_X1_answerSize l D cI h t fl fn h2 t2 tr n 0 (by first | assumption | omega) (by first | assumption | omega) (by first | assumption | omega)) (cwV 2 hts gX1_greatestPlace_X1_answerSize rfl rfl rfl (by decide +kernel) ⟨(Nat.le_of_ble_eq_true rfl), (Nat.le_of_ble_eq_true rfl)⟩) (ro_preV hP hK rfl (q0 := 0) rfl) rfl rfl hl.1 rfl (lv_room (Nat.le_of_ble_eq_true rfl)) dX1_greatestPlace_5 ⟨Nat.zero_le _, Nat.zero_le _⟩) ?_
  refine lv_istore_n (lv' := [(3, .int (fX1_answerSize fl fn tr n 0)), (2, .int 0), (0, .ref h), (1, .ref h2)]) hx hb dX1_greatestPlace_8 rfl hl (by decide) rfl (fun ls hl => ?_)
  refine lv_iconst (v := 1) hx hb dX1_greatestPlace_9 (by decide) ?_
  refine lv_istore (lv' := [(4, .int 1), (3, .int (fX1_answerSize fl fn tr n 0)), (2, .int 0), (0, .ref h), (1, .ref h2)]) hx hb dX1_greatestPlace_10 hl (by decide) rfl (fun ls hl => ?_)
  have lp12 : ∀ (r12 k12 : Nat) (x2 : Int32) (x3 : Int32) (ls : Array Slot), r12 = (fn + n - 1) - k12 → k12 ≤ (fn + n - 1) + 1 → lv_has ls 6 [(0, .ref h), (1, .ref h2), (2, .int x2), (3, .int x3), (4, .int (nI k12))] → F_X1_greatestPlace_12 fl fn tr n r12 k12 x2 x3 = T → W p l e (headSpec wsX1_greatestPlace rmX1_greatestPlace).room s m ([.ref h, .ref h2] : List Value).toArray below meth c s.heap [] 0 0 Q (F0 m 12 ls []) := by
    intro r12
    induction r12 with
    | zero =>
      intro k12 x2 x3 ls hi12_0 hi12_1 hl hF
      rw [F_X1_greatestPlace_12] at hF
      refine lv_iload hx hb dX1_greatestPlace_12 (lv_at hl 4 rfl) ?_
      refine lv_aload_n hx hb dX1_greatestPlace_14 rfl (lv_at hl 0 rfl) ?_
      refine va_get (D := D) (ci := 0) (v := .int (nI fn)) (C := RX1) (T := TX1) (N := 2) hx hb hts hinX1 hown hK.1 hP 0 rfl rfl 1 (by decide) hf13 (fun _ h9 => h9) rfl dX1_greatestPlace_15 ?_
      refine lv_aload_n hx hb dX1_greatestPlace_18 rfl (lv_at hl 1 rfl) ?_
      refine va_get (D := D) (ci := 3) (v := .int (nI n)) (C := RX5) (T := TX5) (N := 2) hx hb hts hinX5 hown hK.1 hP 2 rfl rfl 1 (by decide) hf17 (fun _ h9 => h9) rfl dX1_greatestPlace_19 ?_
      refine lv_iadd hx hb dX1_greatestPlace_22 ?_
      refine lv_iconst (v := 1) hx hb dX1_greatestPlace_23 (by decide) ?_
      refine lv_isub hx hb dX1_greatestPlace_24 ?_
      refine lv_icmp_ge (tgt := 55) hx hb dX1_greatestPlace_25 (by decide) (fun c25 => ?_) (fun c25 => ?_)
      · skip
        refine lv_iload_n hx hb dX1_greatestPlace_55 rfl (lv_at hl 2 rfl) ?_
        subst hQ
        exact W.iret (v := x2) hx hb hr (fun u9 ht hW => ⟨_, rfl, hF, ht⟩) (fun q hq => by cases hq) dX1_greatestPlace_56
      · exact False.elim (c25 (by rw [addm1 (by omega)]; exact nI_le (by omega) (by omega)))
    | succ r12 ih12 =>
      intro k12 x2 x3 ls hi12_0 hi12_1 hl hF
      rw [F_X1_greatestPlace_12] at hF
      refine lv_iload hx hb dX1_greatestPlace_12 (lv_at hl 4 rfl) ?_
      refine lv_aload_n hx hb dX1_greatestPlace_14 rfl (lv_at hl 0 rfl) ?_
      refine va_get (D := D) (ci := 0) (v := .int (nI fn)) (C := RX1) (T := TX1) (N := 2) hx hb hts hinX1 hown hK.1 hP 0 rfl rfl 1 (by decide) hf13 (fun _ h9 => h9) rfl dX1_greatestPlace_15 ?_
      refine lv_aload_n hx hb dX1_greatestPlace_18 rfl (lv_at hl 1 rfl) ?_
      refine va_get (D := D) (ci := 3) (v := .int (nI n)) (C := RX5) (T := TX5) (N := 2) hx hb hts hinX5 hown hK.1 hP 2 rfl rfl 1 (by decide) hf17 (fun _ h9 => h9) rfl dX1_greatestPlace_19 ?_
      refine lv_iadd hx hb dX1_greatestPlace_22 ?_
      refine lv_iconst (v := 1) hx hb dX1_greatestPlace_23 (by decide) ?_
      refine lv_isub hx hb dX1_greatestPlace_24 ?_
      refine lv_icmp_ge (tgt := 55) hx hb dX1_greatestPlace_25 (by decide) (fun c25 => ?_) (fun c25 => ?_)
      · exact False.elim ((by rw [addm1 (by omega)] at c25; exact nI_ge (by omega) (by omega) c25))
      · skip
        refine lv_aload_n hx hb dX1_greatestPlace_28 rfl (lv_at hl 0 rfl) ?_
        refine lv_aload_n hx hb dX1_greatestPlace_29 rfl (lv_at hl 1 rfl) ?_
        refine lv_iload hx hb dX1_greatestPlace_30 (lv_at hl 4 rfl) ?_
        refine cs_i (va_runV (As := [.ref h2, .int (nI k12)]) (rest := []) ⟨hx, hb, hml, hown, hts⟩ (c_X1_answerSize l D cI h t fl fn h2 t2 tr n (nI k12) (by first | assumption | omega) (by first | assumption | omega) (by first | assumption | omega)) (cwV 2 hts gX1_greatestPlace_X1_answerSize rfl rfl rfl (by decide +kernel) ⟨(Nat.le_of_ble_eq_true rfl), (Nat.le_of_ble_eq_true rfl)⟩) (ro_preV hP hK rfl (q0 := 0) rfl) rfl rfl hl.1 rfl (lv_room (Nat.le_of_ble_eq_true rfl)) dX1_greatestPlace_32 ⟨Nat.zero_le _, Nat.zero_le _⟩) ?_
        refine lv_istore (lv' := [(5, .int (fX1_answerSize fl fn tr n (nI k12))), (0, .ref h), (1, .ref h2), (2, .int x2), (3, .int x3), (4, .int (nI k12))]) hx hb dX1_greatestPlace_35 hl (by decide) rfl (fun ls hl => ?_)
        refine lv_iload hx hb dX1_greatestPlace_37 (lv_at hl 0 rfl) ?_
        refine lv_iload_n hx hb dX1_greatestPlace_39 rfl (lv_at hl 4 rfl) ?_
        refine lv_icmp_le (tgt := 49) hx hb dX1_greatestPlace_40 (by decide) (fun c40 => ?_) (fun c40 => ?_)
        · rw [if_pos c40] at hF
          refine lv_iinc (v := nI (k12 + 1)) (lv' := [(4, .int (nI (k12 + 1))), (5, .int (fX1_answerSize fl fn tr n (nI k12))), (0, .ref h), (1, .ref h2), (2, .int x2), (3, .int x3)]) hx hb dX1_greatestPlace_49 hl (k := 5) rfl (nI_1 _) (by decide) rfl (fun ls hl => ?_)
          refine lv_goto (tgt := 12) hx hb dX1_greatestPlace_52 (by decide) ?_
          exact ih12 (k12 + 1) x2 x3 ls (by omega) (by omega)  (lv_sub hl [2, 3, 4, 5, 0] rfl) hF
        · rw [if_neg c40] at hF
          refine lv_iload hx hb dX1_greatestPlace_43 (lv_at hl 5 rfl) ?_
          refine lv_istore_n (lv' := [(2, .int (nI k12)), (5, .int (fX1_answerSize fl fn tr n (nI k12))), (0, .ref h), (1, .ref h2), (3, .int x3), (4, .int (nI k12))]) hx hb dX1_greatestPlace_45 rfl hl (by decide) rfl (fun ls hl => ?_)
          refine lv_iload hx hb dX1_greatestPlace_46 (lv_at hl 1 rfl) ?_
          refine lv_istore_n (lv' := [(3, .int (fX1_answerSize fl fn tr n (nI k12))), (2, .int (nI k12)), (5, .int (fX1_answerSize fl fn tr n (nI k12))), (0, .ref h), (1, .ref h2), (4, .int (nI k12))]) hx hb dX1_greatestPlace_48 rfl hl (by decide) rfl (fun ls hl => ?_)
          refine lv_iinc (v := nI (k12 + 1)) (lv' := [(4, .int (nI (k12 + 1))), (3, .int (fX1_answerSize fl fn tr n (nI k12))), (2, .int (nI k12)), (5, .int (fX1_answerSize fl fn tr n (nI k12))), (0, .ref h), (1, .ref h2)]) hx hb dX1_greatestPlace_49 hl (k := 5) rfl (nI_1 _) (by decide) rfl (fun ls hl => ?_)
          refine lv_goto (tgt := 12) hx hb dX1_greatestPlace_52 (by decide) ?_
          exact ih12 (k12 + 1) (nI k12) (fX1_answerSize fl fn tr n (nI k12)) ls (by omega) (by omega)  (lv_sub hl [4, 5, 2, 1, 0] rfl) hF
  exact lp12 ((fn + n - 1) - 1) 1 0 (fX1_answerSize fl fn tr n 0) ls rfl (by omega)  (lv_sub hl [3, 4, 2, 1, 0] rfl) hF
def F_X1_clearness_25 (fl : Nat → Int32) (fn : Nat) (tr : Nat → Int32) (n : Nat) : Nat → Nat → Int32 → Int32
  | 0, k25, x4 => (if x4 = 0 then 1000000 else (10 * (fX1_answerSize fl fn tr n (fX1_greatestPlace fl fn tr n))) / x4)
  | r25 + 1, k25, x4 => (if (nI k25) = (fX1_greatestPlace fl fn tr n) then F_X1_clearness_25 fl fn tr n r25 (k25 + 1) x4 else F_X1_clearness_25 fl fn tr n r25 (k25 + 1) (if x4 < (fX1_answerSize fl fn tr n (nI k25)) then fX1_answerSize fl fn tr n (nI k25) else x4))
def fX1_clearness (fl : Nat → Int32) (fn : Nat) (tr : Nat → Int32) (n : Nat) : Int32 := (if (fX1_answerSize fl fn tr n (fX1_greatestPlace fl fn tr n)) = 0 then 0 else F_X1_clearness_25 fl fn tr n ((fn + n - 1) - 0) 0 0)
abbrev rmX1_clearness : Room := { frames := 5, cells := 0, slots := 0, locals := 117 }
set_option maxHeartbeats 4000000 in
set_option maxRecDepth 100000 in
theorem c_X1_clearness (l : Launch) (D : va_G) (cI : ClassId) (h : Nat) (t : Nat) (fl : Nat → Int32) (fn : Nat) (h2 : Nat) (t2 : Nat) (tr : Nat → Int32) (n : Nat) (hfn : fn ≤ 24) (hn : n ≤ 16) (hn1 : 1 ≤ n) : Met l yX1_clearness wsX1_clearness rmX1_clearness (va_Pc [.ref h, .ref h2] (roP D [(cI, .int)] [(h, .inr (0, [.ref t, .int (nI fn)])), (t, .inl (cI, 24, .inl fl)), (h2, .inr (3, [.ref t2, .int (nI n)])), (t2, .inl (cI, 16, .inl tr))])) (vp_Si (fun r9 => r9 = fX1_clearness fl fn tr n)) 0 0 (fun _ => False) := by
  generalize hF : fX1_clearness fl fn tr n = T
  refine Met.ofW (cc := cX1_clearness) (maxL := 6) (ret := (some .int)) (by decide) rfl ?_
  intro p e s m args below meth c s₁ B hml hv
  obtain ⟨rfl, hP, hK⟩ := hv
  have hx := B.exec
  have hb := B.bytes
  have hr := B.returns
  have hts := atoms_spec (ws := wsX1_clearness) B.pre
  have hown : s.vm.findClass RX1 = some m.cls := findClass_of_methodNamed B.named
  have hlocks := B.notSynchronized
  have hinX1 : ∀ w ∈ u_ws RX1 TX1 2, w ∈ wsX1_clearness := by decide +kernel
  have hinX5 : ∀ w ∈ u_ws RX5 TX5 2, w ∈ wsX1_clearness := by decide +kernel
  have hf13 := hts (.fieldLink RX1 13 "PulseSigns$Filter" "length" "I") (by decide +kernel)
  have hf17 := hts (.fieldLink RX1 17 "PulseSigns$Sign" "length" "I") (by decide +kernel)
  have hcst50 := hts (.constant RX1 50 1000000) (by decide +kernel)
  have hml45 := hts (.methodLink RX1 45 Lib.Math.max.name) (by decide +kernel)
  have hst45 := hts (.static Lib.Math.max.name) (by decide +kernel)
  have hiM := hts (.initialized "java/lang/Math") (by decide +kernel)
  have hcd45 := hts (.code Lib.Math.max.name Lib.Math.max.code 2 (some .int)) (by decide +kernel)
  have hl := lv_entry ([.ref h, .ref h2]) (n := 6) (Nat.le_of_ble_eq_true rfl)
  rw [lg_entry_eq]
  generalize (lg_sl ([.ref h, .ref h2]) ++ List.replicate (6 - (lg_sl ([.ref h, .ref h2])).length) Slot.unset).toArray = ls at hl ⊢
  refine w_Q (fun Q hQ => ?_)
  have hl : lv_has ls 6 [(0, .ref h), (1, .ref h2)] := hl
  rw [fX1_clearness] at hF
  refine lv_aload_n hx hb dX1_clearness_0 rfl (lv_at hl 0 rfl) ?_
  refine lv_aload_n hx hb dX1_clearness_1 rfl (lv_at hl 1 rfl) ?_
  refine cs_i (va_runV (As := [.ref h2]) (rest := []) ⟨hx, hb, hml, hown, hts⟩ (c_X1_greatestPlace l D cI h t fl fn h2 t2 tr n (by first | assumption | omega) (by first | assumption | omega) (by first | assumption | omega)) (cwV 1 hts gX1_clearness_X1_greatestPlace rfl rfl rfl (by decide +kernel) ⟨(Nat.le_of_ble_eq_true rfl), (Nat.le_of_ble_eq_true rfl)⟩) (ro_preV hP hK rfl (q0 := 0) rfl) rfl rfl hl.1 rfl (lv_room (Nat.le_of_ble_eq_true rfl)) dX1_clearness_2 ⟨Nat.zero_le _, Nat.zero_le _⟩) ?_
  refine lv_istore_n (lv' := [(2, .int (fX1_greatestPlace fl fn tr n)), (0, .ref h), (1, .ref h2)]) hx hb dX1_clearness_5 rfl hl (by decide) rfl (fun ls hl => ?_)
  refine lv_aload_n hx hb dX1_clearness_6 rfl (lv_at hl 1 rfl) ?_
  refine lv_aload_n hx hb dX1_clearness_7 rfl (lv_at hl 2 rfl) ?_
  refine lv_iload_n hx hb dX1_clearness_8 rfl (lv_at hl 0 rfl) ?_
  refine cs_i (va_runV (As := [.ref h2, .int (fX1_greatestPlace fl fn tr n)]) (rest := []) ⟨hx, hb, hml, hown, hts⟩ (c_X1_answerSize l D cI h t fl fn h2 t2 tr n (fX1_greatestPlace fl fn tr n) (by first | assumption | omega) (by first | assumption | omega) (by first | assumption | omega)) (cwV 2 hts gX1_clearness_X1_answerSize rfl rfl rfl (by decide +kernel) ⟨(Nat.le_of_ble_eq_true rfl), (Nat.le_of_ble_eq_true rfl)⟩) (ro_preV hP hK rfl (q0 := 0) rfl) rfl rfl hl.1 rfl (lv_room (Nat.le_of_ble_eq_true rfl)) dX1_clearness_9 ⟨Nat.zero_le _, Nat.zero_le _⟩) ?_
  refine lv_istore_n (lv' := [(3, .int (fX1_answerSize fl fn tr n (fX1_greatestPlace fl fn tr n))), (2, .int (fX1_greatestPlace fl fn tr n)), (0, .ref h), (1, .ref h2)]) hx hb dX1_clearness_12 rfl hl (by decide) rfl (fun ls hl => ?_)
  refine lv_iload_n hx hb dX1_clearness_13 rfl (lv_at hl 0 rfl) ?_
  refine lv_if_ne (tgt := 19) hx hb dX1_clearness_14 (by decide) (fun c14 => ?_) (fun c14 => ?_)
  · rw [if_neg c14] at hF
    refine lv_iconst (v := 0) hx hb dX1_clearness_19 (by decide) ?_
    refine lv_istore (lv' := [(4, .int 0), (3, .int (fX1_answerSize fl fn tr n (fX1_greatestPlace fl fn tr n))), (2, .int (fX1_greatestPlace fl fn tr n)), (0, .ref h), (1, .ref h2)]) hx hb dX1_clearness_20 hl (by decide) rfl (fun ls hl => ?_)
    refine lv_iconst (v := 0) hx hb dX1_clearness_22 (by decide) ?_
    refine lv_istore (lv' := [(5, .int 0), (4, .int 0), (3, .int (fX1_answerSize fl fn tr n (fX1_greatestPlace fl fn tr n))), (2, .int (fX1_greatestPlace fl fn tr n)), (0, .ref h), (1, .ref h2)]) hx hb dX1_clearness_23 hl (by decide) rfl (fun ls hl => ?_)
    have lp25 : ∀ (r25 k25 : Nat) (x4 : Int32) (ls : Array Slot), r25 = (fn + n - 1) - k25 → k25 ≤ (fn + n - 1) + 1 → lv_has ls 6 [(0, .ref h), (1, .ref h2), (2, .int (fX1_greatestPlace fl fn tr n)), (3, .int (fX1_answerSize fl fn tr n (fX1_greatestPlace fl fn tr n))), (4, .int x4), (5, .int (nI k25))] → F_X1_clearness_25 fl fn tr n r25 k25 x4 = T → W p l e (headSpec wsX1_clearness rmX1_clearness).room s m ([.ref h, .ref h2] : List Value).toArray below meth c s.heap [] 0 0 Q (F0 m 25 ls []) := by
      intro r25
      induction r25 with
      | zero =>
        intro k25 x4 ls hi25_0 hi25_1 hl hF
        rw [F_X1_clearness_25] at hF
        refine lv_iload hx hb dX1_clearness_25 (lv_at hl 5 rfl) ?_
        refine lv_aload_n hx hb dX1_clearness_27 rfl (lv_at hl 0 rfl) ?_
        refine va_get (D := D) (ci := 0) (v := .int (nI fn)) (C := RX1) (T := TX1) (N := 2) hx hb hts hinX1 hown hK.1 hP 0 rfl rfl 1 (by decide) hf13 (fun _ h9 => h9) rfl dX1_clearness_28 ?_
        refine lv_aload_n hx hb dX1_clearness_31 rfl (lv_at hl 1 rfl) ?_
        refine va_get (D := D) (ci := 3) (v := .int (nI n)) (C := RX5) (T := TX5) (N := 2) hx hb hts hinX5 hown hK.1 hP 2 rfl rfl 1 (by decide) hf17 (fun _ h9 => h9) rfl dX1_clearness_32 ?_
        refine lv_iadd hx hb dX1_clearness_35 ?_
        refine lv_iconst (v := 1) hx hb dX1_clearness_36 (by decide) ?_
        refine lv_isub hx hb dX1_clearness_37 ?_
        refine lv_icmp_ge (tgt := 67) hx hb dX1_clearness_38 (by decide) (fun c38 => ?_) (fun c38 => ?_)
        · skip
          refine lv_iload hx hb dX1_clearness_67 (lv_at hl 4 rfl) ?_
          refine lv_if_ne (tgt := 77) hx hb dX1_clearness_69 (by decide) (fun c69 => ?_) (fun c69 => ?_)
          · rw [if_neg c69] at hF
            refine lv_bipush (v := 10) hx hb dX1_clearness_77 (by decide) ?_
            refine lv_iload_n hx hb dX1_clearness_79 rfl (lv_at hl 3 rfl) ?_
            refine lv_imul hx hb dX1_clearness_80 ?_
            refine lv_iload hx hb dX1_clearness_81 (lv_at hl 4 rfl) ?_
            refine lv_idiv hx hb dX1_clearness_83 c69 ?_
            subst hQ
            exact W.iret (v := (10 * (fX1_answerSize fl fn tr n (fX1_greatestPlace fl fn tr n))) / x4) hx hb hr (fun u9 ht hW => ⟨_, rfl, hF, ht⟩) (fun q hq => by cases hq) dX1_clearness_84
          · rw [if_pos c69] at hF
            refine lv_ldc (v := 1000000) hx hb hown hcst50 dX1_clearness_72 ?_
            refine lv_goto (tgt := 84) hx hb dX1_clearness_74 (by decide) ?_
            subst hQ
            exact W.iret (v := 1000000) hx hb hr (fun u9 ht hW => ⟨_, rfl, hF, ht⟩) (fun q hq => by cases hq) dX1_clearness_84
        · exact False.elim (c38 (by rw [addm1 (by omega)]; exact nI_le (by omega) (by omega)))
      | succ r25 ih25 =>
        intro k25 x4 ls hi25_0 hi25_1 hl hF
        rw [F_X1_clearness_25] at hF
        refine lv_iload hx hb dX1_clearness_25 (lv_at hl 5 rfl) ?_
        refine lv_aload_n hx hb dX1_clearness_27 rfl (lv_at hl 0 rfl) ?_
        refine va_get (D := D) (ci := 0) (v := .int (nI fn)) (C := RX1) (T := TX1) (N := 2) hx hb hts hinX1 hown hK.1 hP 0 rfl rfl 1 (by decide) hf13 (fun _ h9 => h9) rfl dX1_clearness_28 ?_
        refine lv_aload_n hx hb dX1_clearness_31 rfl (lv_at hl 1 rfl) ?_
        refine va_get (D := D) (ci := 3) (v := .int (nI n)) (C := RX5) (T := TX5) (N := 2) hx hb hts hinX5 hown hK.1 hP 2 rfl rfl 1 (by decide) hf17 (fun _ h9 => h9) rfl dX1_clearness_32 ?_
        refine lv_iadd hx hb dX1_clearness_35 ?_
        refine lv_iconst (v := 1) hx hb dX1_clearness_36 (by decide) ?_
        refine lv_isub hx hb dX1_clearness_37 ?_
        refine lv_icmp_ge (tgt := 67) hx hb dX1_clearness_38 (by decide) (fun c38 => ?_) (fun c38 => ?_)
        · exact False.elim ((by rw [addm1 (by omega)] at c38; exact nI_ge (by omega) (by omega) c38))
        · skip
          refine lv_iload hx hb dX1_clearness_41 (lv_at hl 5 rfl) ?_
          refine lv_iload_n hx hb dX1_clearness_43 rfl (lv_at hl 2 rfl) ?_
          refine lv_icmp_eq (tgt := 61) hx hb dX1_clearness_44 (by decide) (fun c44 => ?_) (fun c44 => ?_)
          · rw [if_pos c44] at hF
            refine lv_iinc (v := nI (k25 + 1)) (lv' := [(5, .int (nI (k25 + 1))), (0, .ref h), (1, .ref h2), (2, .int (fX1_greatestPlace fl fn tr n)), (3, .int (fX1_answerSize fl fn tr n (fX1_greatestPlace fl fn tr n))), (4, .int x4)]) hx hb dX1_clearness_61 hl (k := 5) rfl (nI_1 _) (by decide) rfl (fun ls hl => ?_)
            refine lv_goto (tgt := 25) hx hb dX1_clearness_64 (by decide) ?_
            exact ih25 (k25 + 1) x4 ls (by omega) (by omega)  (lv_sub hl [1, 2, 3, 4, 5, 0] rfl) hF
          · rw [if_neg c44] at hF
            refine lv_iload hx hb dX1_clearness_47 (lv_at hl 4 rfl) ?_
            refine lv_aload_n hx hb dX1_clearness_49 rfl (lv_at hl 0 rfl) ?_
            refine lv_aload_n hx hb dX1_clearness_50 rfl (lv_at hl 1 rfl) ?_
            refine lv_iload hx hb dX1_clearness_51 (lv_at hl 5 rfl) ?_
            refine cs_i (va_runV (As := [.ref h2, .int (nI k25)]) (rest := [.int x4]) ⟨hx, hb, hml, hown, hts⟩ (c_X1_answerSize l D cI h t fl fn h2 t2 tr n (nI k25) (by first | assumption | omega) (by first | assumption | omega) (by first | assumption | omega)) (cwV 2 hts gX1_clearness_X1_answerSize rfl rfl rfl (by decide +kernel) ⟨(Nat.le_of_ble_eq_true rfl), (Nat.le_of_ble_eq_true rfl)⟩) (ro_preV hP hK rfl (q0 := 0) rfl) rfl rfl hl.1 rfl (lv_room (Nat.le_of_ble_eq_true rfl)) dX1_clearness_53 ⟨Nat.zero_le _, Nat.zero_le _⟩) ?_
            refine va_mmax hx hb (by rw [hml]; exact hl.1.symm) hown hml45 hst45 hiM hcd45 (Nat.le_of_ble_eq_true rfl) (Nat.le_of_ble_eq_true rfl) (Nat.zero_le _) (Nat.zero_le _) dX1_clearness_56 ?_
            refine lv_istore (lv' := [(4, .int (if x4 < (fX1_answerSize fl fn tr n (nI k25)) then fX1_answerSize fl fn tr n (nI k25) else x4)), (0, .ref h), (1, .ref h2), (2, .int (fX1_greatestPlace fl fn tr n)), (3, .int (fX1_answerSize fl fn tr n (fX1_greatestPlace fl fn tr n))), (5, .int (nI k25))]) hx hb dX1_clearness_59 hl (by decide) rfl (fun ls hl => ?_)
            refine lv_iinc (v := nI (k25 + 1)) (lv' := [(5, .int (nI (k25 + 1))), (4, .int (if x4 < (fX1_answerSize fl fn tr n (nI k25)) then fX1_answerSize fl fn tr n (nI k25) else x4)), (0, .ref h), (1, .ref h2), (2, .int (fX1_greatestPlace fl fn tr n)), (3, .int (fX1_answerSize fl fn tr n (fX1_greatestPlace fl fn tr n)))]) hx hb dX1_clearness_61 hl (k := 5) rfl (nI_1 _) (by decide) rfl (fun ls hl => ?_)
            refine lv_goto (tgt := 25) hx hb dX1_clearness_64 (by decide) ?_
            exact ih25 (k25 + 1) (if x4 < (fX1_answerSize fl fn tr n (nI k25)) then fX1_answerSize fl fn tr n (nI k25) else x4) ls (by omega) (by omega)  (lv_sub hl [2, 3, 4, 5, 1, 0] rfl) hF
    exact lp25 ((fn + n - 1) - 0) 0 0 ls rfl (by omega)  (lv_sub hl [4, 5, 3, 2, 1, 0] rfl) hF
  · rw [if_pos c14] at hF
    refine lv_iconst (v := 0) hx hb dX1_clearness_17 (by decide) ?_
    subst hQ
    exact W.iret (v := 0) hx hb hr (fun u9 ht hW => ⟨_, rfl, hF, ht⟩) (fun q hq => by cases hq) dX1_clearness_18
end
section
def fX2_mayUnfold (er : Int32) (mm : Int32) (sp : Int32) : Int32 := (if (fX6_within er 0 5) = 0 then 0 else (if (fX6_within mm 1 4) = 0 then 0 else (if (fX6_within sp 1 5000) = 0 then 0 else 1)))
abbrev rmX2_mayUnfold : Room := { frames := 1, cells := 0, slots := 0, locals := 22 }
set_option maxHeartbeats 4000000 in
set_option maxRecDepth 100000 in
theorem c_X2_mayUnfold (l : Launch) (D : va_G) (cI : ClassId) (er : Int32) (mm : Int32) (sp : Int32)  : Met l yX2_mayUnfold wsX2_mayUnfold rmX2_mayUnfold (va_Pc [.int er, .int mm, .int sp] (roP D [(cI, .int)] [])) (vp_Si (fun r9 => r9 = fX2_mayUnfold er mm sp)) 0 0 (fun _ => False) := by
  generalize hF : fX2_mayUnfold er mm sp = T
  refine Met.ofW (cc := cX2_mayUnfold) (maxL := 3) (ret := (some .boolean)) (by decide) rfl ?_
  intro p e s m args below meth c s₁ B hml hv
  obtain ⟨rfl, hP, hK⟩ := hv
  have hx := B.exec
  have hb := B.bytes
  have hr := B.returns
  have hts := atoms_spec (ws := wsX2_mayUnfold) B.pre
  have hown : s.vm.findClass RX2 = some m.cls := findClass_of_methodNamed B.named
  have hlocks := B.notSynchronized
  have hiniX6 := hts (.initialized RX6) (by decide +kernel)
  have hst_X6_within := hts (.static yX6_within) (by decide +kernel)
  have hl := lv_entry ([.int er, .int mm, .int sp]) (n := 3) (Nat.le_of_ble_eq_true rfl)
  rw [lg_entry_eq]
  generalize (lg_sl ([.int er, .int mm, .int sp]) ++ List.replicate (3 - (lg_sl ([.int er, .int mm, .int sp])).length) Slot.unset).toArray = ls at hl ⊢
  refine w_Q (fun Q hQ => ?_)
  have hl : lv_has ls 3 [(0, .int er), (1, .int mm), (2, .int sp)] := hl
  rw [fX2_mayUnfold] at hF
  refine lv_iload_n hx hb dX2_mayUnfold_0 rfl (lv_at hl 0 rfl) ?_
  refine lv_iconst (v := 0) hx hb dX2_mayUnfold_1 (by decide) ?_
  refine lv_iconst (v := 5) hx hb dX2_mayUnfold_2 (by decide) ?_
  refine cs_i (va_runSN (As := [.int er, .int 0, .int 5]) (rest := []) ⟨hx, hb, hml, hown, hts⟩ (c_X6_within l D cI er 0 5 ) ⟨va_cnB 3 hts gX2_mayUnfold_X6_within_n22 rfl rfl rfl hK.2.2.2.2.2.2.1 hiniX6 (by decide +kernel) ⟨(Nat.le_of_ble_eq_true rfl), (Nat.le_of_ble_eq_true rfl)⟩, hst_X6_within, trivial⟩ (ro_pre hP hK) rfl rfl hl.1 rfl (lv_room (Nat.le_of_ble_eq_true rfl)) dX2_mayUnfold_3 ⟨Nat.zero_le _, Nat.zero_le _⟩) ?_
  refine lv_if_eq (tgt := 33) hx hb dX2_mayUnfold_6 (by decide) (fun c6 => ?_) (fun c6 => ?_)
  · rw [if_pos c6] at hF
    refine lv_iconst (v := 0) hx hb dX2_mayUnfold_33 (by decide) ?_
    subst hQ
    exact W.zret (v := 0) (ty := .boolean) hx hb hr rfl (fun u9 ht hW => ⟨_, rfl, hF, ht⟩) (fun q hq => by cases hq) dX2_mayUnfold_34
  · rw [if_neg c6] at hF
    refine lv_iload_n hx hb dX2_mayUnfold_9 rfl (lv_at hl 1 rfl) ?_
    refine lv_iconst (v := 1) hx hb dX2_mayUnfold_10 (by decide) ?_
    refine lv_iconst (v := 4) hx hb dX2_mayUnfold_11 (by decide) ?_
    refine cs_i (va_runSN (As := [.int mm, .int 1, .int 4]) (rest := []) ⟨hx, hb, hml, hown, hts⟩ (c_X6_within l D cI mm 1 4 ) ⟨va_cnB 3 hts gX2_mayUnfold_X6_within_n22 rfl rfl rfl hK.2.2.2.2.2.2.1 hiniX6 (by decide +kernel) ⟨(Nat.le_of_ble_eq_true rfl), (Nat.le_of_ble_eq_true rfl)⟩, hst_X6_within, trivial⟩ (ro_pre hP hK) rfl rfl hl.1 rfl (lv_room (Nat.le_of_ble_eq_true rfl)) dX2_mayUnfold_12 ⟨Nat.zero_le _, Nat.zero_le _⟩) ?_
    refine lv_if_eq (tgt := 33) hx hb dX2_mayUnfold_15 (by decide) (fun c15 => ?_) (fun c15 => ?_)
    · rw [if_pos c15] at hF
      refine lv_iconst (v := 0) hx hb dX2_mayUnfold_33 (by decide) ?_
      subst hQ
      exact W.zret (v := 0) (ty := .boolean) hx hb hr rfl (fun u9 ht hW => ⟨_, rfl, hF, ht⟩) (fun q hq => by cases hq) dX2_mayUnfold_34
    · rw [if_neg c15] at hF
      refine lv_iload_n hx hb dX2_mayUnfold_18 rfl (lv_at hl 2 rfl) ?_
      refine lv_iconst (v := 1) hx hb dX2_mayUnfold_19 (by decide) ?_
      refine lv_sipush (v := 5000) hx hb dX2_mayUnfold_20 (by decide) ?_
      refine cs_i (va_runSN (As := [.int sp, .int 1, .int 5000]) (rest := []) ⟨hx, hb, hml, hown, hts⟩ (c_X6_within l D cI sp 1 5000 ) ⟨va_cnB 3 hts gX2_mayUnfold_X6_within_n22 rfl rfl rfl hK.2.2.2.2.2.2.1 hiniX6 (by decide +kernel) ⟨(Nat.le_of_ble_eq_true rfl), (Nat.le_of_ble_eq_true rfl)⟩, hst_X6_within, trivial⟩ (ro_pre hP hK) rfl rfl hl.1 rfl (lv_room (Nat.le_of_ble_eq_true rfl)) dX2_mayUnfold_23 ⟨Nat.zero_le _, Nat.zero_le _⟩) ?_
      refine lv_if_eq (tgt := 33) hx hb dX2_mayUnfold_26 (by decide) (fun c26 => ?_) (fun c26 => ?_)
      · rw [if_pos c26] at hF
        refine lv_iconst (v := 0) hx hb dX2_mayUnfold_33 (by decide) ?_
        subst hQ
        exact W.zret (v := 0) (ty := .boolean) hx hb hr rfl (fun u9 ht hW => ⟨_, rfl, hF, ht⟩) (fun q hq => by cases hq) dX2_mayUnfold_34
      · rw [if_neg c26] at hF
        refine lv_iconst (v := 1) hx hb dX2_mayUnfold_29 (by decide) ?_
        refine lv_goto (tgt := 34) hx hb dX2_mayUnfold_30 (by decide) ?_
        subst hQ
        exact W.zret (v := 1) (ty := .boolean) hx hb hr rfl (fun u9 ht hW => ⟨_, rfl, hF, ht⟩) (fun q hq => by cases hq) dX2_mayUnfold_34
def fX2_has (rn : Nat) (i : Int32) : Int32 := fX6_within i 0 ((nI rn) - 1)
abbrev rmX2_has : Room := { frames := 1, cells := 0, slots := 0, locals := 22 }
set_option maxHeartbeats 4000000 in
set_option maxRecDepth 100000 in
theorem c_X2_has (l : Launch) (D : va_G) (cI : ClassId) (h : Nat) (tp : Nat) (tq : Nat) (per : Nat → Int32) (rea : Nat → Int32) (rn : Nat) (i : Int32)  : Met l yX2_has wsX2_has rmX2_has (va_Pc [.ref h, .int i] (roP D [(cI, .int)] [(h, .inr (1, [.ref tp, .ref tq, .int (nI rn)])), (tp, .inl (cI, 4, .inl per)), (tq, .inl (cI, 4, .inl rea))])) (vp_Si (fun r9 => r9 = fX2_has rn i)) 0 0 (fun _ => False) := by
  generalize hF : fX2_has rn i = T
  refine Met.ofW (cc := cX2_has) (maxL := 2) (ret := (some .boolean)) (by decide) rfl ?_
  intro p e s m args below meth c s₁ B hml hv
  obtain ⟨rfl, hP, hK⟩ := hv
  have hx := B.exec
  have hb := B.bytes
  have hr := B.returns
  have hts := atoms_spec (ws := wsX2_has) B.pre
  have hown : s.vm.findClass RX2 = some m.cls := findClass_of_methodNamed B.named
  have hlocks := B.notSynchronized
  have hinX2 : ∀ w ∈ u_ws RX2 TX2 3, w ∈ wsX2_has := by decide +kernel
  have hf26 := hts (.fieldLink RX2 26 "PulseSigns$Rests" "length" "I") (by decide +kernel)
  have hiniX6 := hts (.initialized RX6) (by decide +kernel)
  have hst_X6_within := hts (.static yX6_within) (by decide +kernel)
  have hl := lv_entry ([.ref h, .int i]) (n := 2) (Nat.le_of_ble_eq_true rfl)
  rw [lg_entry_eq]
  generalize (lg_sl ([.ref h, .int i]) ++ List.replicate (2 - (lg_sl ([.ref h, .int i])).length) Slot.unset).toArray = ls at hl ⊢
  refine w_Q (fun Q hQ => ?_)
  have hl : lv_has ls 2 [(0, .ref h), (1, .int i)] := hl
  rw [fX2_has] at hF
  refine lv_iload_n hx hb dX2_has_0 rfl (lv_at hl 1 rfl) ?_
  refine lv_iconst (v := 0) hx hb dX2_has_1 (by decide) ?_
  refine lv_aload_n hx hb dX2_has_2 rfl (lv_at hl 0 rfl) ?_
  refine va_get (D := D) (ci := 1) (v := .int (nI rn)) (C := RX2) (T := TX2) (N := 3) hx hb hts hinX2 hown hK.1 hP 0 rfl rfl 2 (by decide) hf26 (fun _ h9 => h9) rfl dX2_has_3 ?_
  refine lv_iconst (v := 1) hx hb dX2_has_6 (by decide) ?_
  refine lv_isub hx hb dX2_has_7 ?_
  have hPc := hP.sub (ws' := []) [] rfl
  refine cs_i (va_runSN (As := [.int i, .int 0, .int ((nI rn) - 1)]) (rest := []) ⟨hx, hb, hml, hown, hts⟩ (c_X6_within l D cI i 0 ((nI rn) - 1) ) ⟨va_cnB 3 hts gX2_has_X6_within_n22 rfl rfl rfl hK.2.2.2.2.2.2.1 hiniX6 (by decide +kernel) ⟨(Nat.le_of_ble_eq_true rfl), (Nat.le_of_ble_eq_true rfl)⟩, hst_X6_within, trivial⟩ (ro_pre hPc hK) rfl rfl hl.1 rfl (lv_room (Nat.le_of_ble_eq_true rfl)) dX2_has_8 ⟨Nat.zero_le _, Nat.zero_le _⟩) ?_
  subst hQ
  exact W.zret (v := fX6_within i 0 ((nI rn) - 1)) (ty := .boolean) hx hb hr (nb_of (bX6_within ..)) (fun u9 ht hW => ⟨_, rfl, hF, ht⟩) (fun q hq => by cases hq) dX2_has_11
theorem bX2_has (rn : Nat) (i : Int32) : fX2_has rn i = 0 ∨ fX2_has rn i = 1 := bX6_within ..
def F_X2_reset_7 (n2 : Nat) : Nat → Nat → (Nat → Int32) → (Nat → Int32) → (Nat × (Nat → Int32) × (Nat → Int32))
  | 0, k7, per, rea => (n2, per, rea)
  | r7 + 1, k7, per, rea => F_X2_reset_7 n2 r7 (k7 + 1) (upd per k7 2) (upd rea k7 (-1))
def fX2_reset (per : Nat → Int32) (rea : Nat → Int32) (n2 : Nat) : Nat × (Nat → Int32) × (Nat → Int32) := F_X2_reset_7 n2 (4 - 0) 0 per rea
abbrev rmX2_reset : Room := { frames := 0, cells := 0, slots := 0, locals := 0 }
set_option maxHeartbeats 4000000 in
set_option maxRecDepth 100000 in
theorem c_X2_reset (l : Launch) (D : va_G) (cI : ClassId) (sz : Nat) (h : Nat) (tp : Nat) (tq : Nat) (per : Nat → Int32) (rea : Nat → Int32) (rn : Nat) (n2 : Nat)  : Met l yX2_reset wsX2_reset rmX2_reset (va_Pc [.ref h, .int (nI n2)] (wrP D [(cI, .int)] [(h, .inr (1, [.ref tp, .ref tq, .int (nI rn)])), (tp, .inl (cI, 4, .inl per)), (tq, .inl (cI, 4, .inl rea))] sz)) (va_Qv (fun (_ : Unit) => True) (fun _ u9 => va_P D vwCl [(h, .inr (1, [.ref tp, .ref tq, .int (nI ((fX2_reset per rea n2).1))])), (tp, .inl (cI, 4, .inl ((fX2_reset per rea n2).2.1))), (tq, .inl (cI, 4, .inl ((fX2_reset per rea n2).2.2)))] u9.heap) (va_A [(h, .inr (1, [.ref tp, .ref tq, .int (nI rn)])), (tp, .inl (cI, 4, .inl per)), (tq, .inl (cI, 4, .inl rea))] sz)) 0 0 (va_A [(h, .inr (1, [.ref tp, .ref tq, .int (nI rn)])), (tp, .inl (cI, 4, .inl per)), (tq, .inl (cI, 4, .inl rea))] sz) := by
  generalize hF : fX2_reset per rea n2 = T
  refine Met.ofW (cc := cX2_reset) (maxL := 3) (ret := none) (by decide) rfl ?_
  intro p e s m args below meth c s₁ B hml hv
  obtain ⟨rfl, hsz, hP, hK, hD0⟩ := hv
  have hx := B.exec
  have hb := B.bytes
  have hr := B.returns
  have hts := atoms_spec (ws := wsX2_reset) B.pre
  have hown : s.vm.findClass RX2 = some m.cls := findClass_of_methodNamed B.named
  have hlocks := B.notSynchronized
  have hinX2 : ∀ w ∈ u_ws RX2 TX2 3, w ∈ wsX2_reset := by decide +kernel
  have hf26 := hts (.fieldLink RX2 26 "PulseSigns$Rests" "length" "I") (by decide +kernel)
  have hf11 := hts (.fieldLink RX2 11 "PulseSigns$Rests" "periods" "[I") (by decide +kernel)
  have hf15 := hts (.fieldLink RX2 15 "PulseSigns$Rests" "readings" "[I") (by decide +kernel)
  subst hsz
  have hD := hD0.self (sz := s.heap.size)
  generalize hAe : va_A [(h, .inr (1, [.ref tp, .ref tq, .int (nI rn)])), (tp, .inl (cI, 4, .inl per)), (tq, .inl (cI, 4, .inl rea))] s.heap.size = A at hD ⊢
  have hA : ∀ q : Nat, s.heap.size ≤ q → A q := fun q h => by rw [← hAe]; exact Or.inr h
  have hS : va_S A s.heap s.heap [] := va_S.rf
  have hP : va_P D vwCl [(h, .inr (1, [.ref tp, .ref tq, .int (nI rn)])), (tp, .inl (cI, 4, .inl per)), (tq, .inl (cI, 4, .inl rea))] s.heap := hP
  have hl := lv_entry ([.ref h, .int (nI n2)]) (n := 3) (Nat.le_of_ble_eq_true rfl)
  rw [lg_entry_eq]
  generalize (lg_sl ([.ref h, .int (nI n2)]) ++ List.replicate (3 - (lg_sl ([.ref h, .int (nI n2)])).length) Slot.unset).toArray = ls at hl ⊢
  refine w_Q (fun Q hQ => ?_)
  have hl : lv_has ls 3 [(0, .ref h), (1, .int (nI n2))] := hl
  rw [fX2_reset] at hF
  refine lv_aload_n hx hb dX2_reset_0 rfl (lv_at hl 0 rfl) ?_
  refine lv_iload_n hx hb dX2_reset_1 rfl (lv_at hl 1 rfl) ?_
  refine va_put (D := D) (ci := 1) (v := .int (nI n2)) (ty := .int) (C := RX2) (T := TX2) (N := 3) hx hb hts hinX2 tyX2 tyX2_ok nmX2 hown hK.1 hP hD hS 0 rfl rfl 2 (by decide) hf26 (fun _ h9 => h9) rfl (by decide +kernel) rfl rfl (Nat.le_of_ble_eq_true rfl) dX2_reset_2 (fun H locs hP hD hS => ?_)
  have hP : va_P D vwCl [(h, .inr (1, [.ref tp, .ref tq, .int (nI n2)])), (tp, .inl (cI, 4, .inl per)), (tq, .inl (cI, 4, .inl rea))] H := hP
  have hD : va_D A [(h, .inr (1, [.ref tp, .ref tq, .int (nI n2)])), (tp, .inl (cI, 4, .inl per)), (tq, .inl (cI, 4, .inl rea))] := hD
  refine lv_iconst (v := 0) hx hb dX2_reset_5 (by decide) ?_
  refine lv_istore_n (lv' := [(2, .int 0), (0, .ref h), (1, .int (nI n2))]) hx hb dX2_reset_6 rfl hl (by decide) rfl (fun ls hl => ?_)
  have lp7 : ∀ (r7 k7 : Nat) (per : Nat → Int32) (rea : Nat → Int32) (H : Heap) (locs : List Loc) (ls : Array Slot), r7 = 4 - k7 → k7 ≤ 4 + 1 → va_P D vwCl [(h, .inr (1, [.ref tp, .ref tq, .int (nI n2)])), (tp, .inl (cI, 4, .inl per)), (tq, .inl (cI, 4, .inl rea))] H → va_D A [(h, .inr (1, [.ref tp, .ref tq, .int (nI n2)])), (tp, .inl (cI, 4, .inl per)), (tq, .inl (cI, 4, .inl rea))] → va_S A s.heap H locs → lv_has ls 3 [(0, .ref h), (1, .int (nI n2)), (2, .int (nI k7))] → F_X2_reset_7 n2 r7 k7 per rea = T → W p l e (headSpec wsX2_reset rmX2_reset).room s m ([.ref h, .int (nI n2)] : List Value).toArray below meth c H locs 0 0 Q (F0 m 7 ls []) := by
    intro r7
    induction r7 with
    | zero =>
      intro k7 per rea H locs ls hi7_0 hi7_1 hP hD hS hl hF
      rw [F_X2_reset_7] at hF
      refine lv_iload_n hx hb dX2_reset_7 rfl (lv_at hl 2 rfl) ?_
      refine lv_iconst (v := 4) hx hb dX2_reset_8 (by decide) ?_
      refine lv_icmp_ge (tgt := 32) hx hb dX2_reset_9 (by decide) (fun c9 => ?_) (fun c9 => ?_)
      · skip
        subst hF
        subst hQ
        exact W.vret hx hb hr (fun u9 ht hW => ⟨⟨(), rfl, trivial, by rw [← ht] at hP; exact hP⟩, hS.F ht⟩) hS.2.2 dX2_reset_32
      · exact False.elim (c9 (nI_le (a := 4) (b := k7) (by omega) (by omega)))
    | succ r7 ih7 =>
      intro k7 per rea H locs ls hi7_0 hi7_1 hP hD hS hl hF
      rw [F_X2_reset_7] at hF
      refine lv_iload_n hx hb dX2_reset_7 rfl (lv_at hl 2 rfl) ?_
      refine lv_iconst (v := 4) hx hb dX2_reset_8 (by decide) ?_
      refine lv_icmp_ge (tgt := 32) hx hb dX2_reset_9 (by decide) (fun c9 => ?_) (fun c9 => ?_)
      · exact False.elim (nI_ge (a := k7) (b := 4) (by omega) (by omega) c9)
      · skip
        refine lv_aload_n hx hb dX2_reset_12 rfl (lv_at hl 0 rfl) ?_
        refine va_get (D := D) (ci := 1) (v := .ref tp) (C := RX2) (T := TX2) (N := 3) hx hb hts hinX2 hown hK.1 hP 0 rfl rfl 0 (by decide) hf11 (fun _ h9 => h9) rfl dX2_reset_13 ?_
        refine lv_iload_n hx hb dX2_reset_16 rfl (lv_at hl 2 rfl) ?_
        refine lv_iconst (v := 2) hx hb dX2_reset_17 (by decide) ?_
        refine w_ast hx hb hK hP hD hS 1 0 rfl rfl (k7) rfl (by omega) (by omega) dX2_reset_18 (fun H locs hP hD hS => ?_)
        have hP : va_P D vwCl [(h, .inr (1, [.ref tp, .ref tq, .int (nI n2)])), (tp, .inl (cI, 4, .inl (upd per k7 2))), (tq, .inl (cI, 4, .inl rea))] H := hP
        have hD : va_D A [(h, .inr (1, [.ref tp, .ref tq, .int (nI n2)])), (tp, .inl (cI, 4, .inl (upd per k7 2))), (tq, .inl (cI, 4, .inl rea))] := hD
        refine lv_aload_n hx hb dX2_reset_19 rfl (lv_at hl 0 rfl) ?_
        refine va_get (D := D) (ci := 1) (v := .ref tq) (C := RX2) (T := TX2) (N := 3) hx hb hts hinX2 hown hK.1 hP 0 rfl rfl 1 (by decide) hf15 (fun _ h9 => h9) rfl dX2_reset_20 ?_
        refine lv_iload_n hx hb dX2_reset_23 rfl (lv_at hl 2 rfl) ?_
        refine lv_iconst (v := (-1)) hx hb dX2_reset_24 (by decide) ?_
        refine w_ast hx hb hK hP hD hS 2 0 rfl rfl (k7) rfl (by omega) (by omega) dX2_reset_25 (fun H locs hP hD hS => ?_)
        have hP : va_P D vwCl [(h, .inr (1, [.ref tp, .ref tq, .int (nI n2)])), (tp, .inl (cI, 4, .inl (upd per k7 2))), (tq, .inl (cI, 4, .inl (upd rea k7 (-1))))] H := hP
        have hD : va_D A [(h, .inr (1, [.ref tp, .ref tq, .int (nI n2)])), (tp, .inl (cI, 4, .inl (upd per k7 2))), (tq, .inl (cI, 4, .inl (upd rea k7 (-1))))] := hD
        refine lv_iinc (v := nI (k7 + 1)) (lv' := [(2, .int (nI (k7 + 1))), (0, .ref h), (1, .int (nI n2))]) hx hb dX2_reset_26 hl (k := 2) rfl (nI_1 _) (by decide) rfl (fun ls hl => ?_)
        refine lv_goto (tgt := 7) hx hb dX2_reset_29 (by decide) ?_
        exact ih7 (k7 + 1) (upd per k7 2) (upd rea k7 (-1)) H locs ls (by omega) (by omega) hP hD hS (lv_sub hl [1, 2, 0] rfl) hF
  exact lp7 (4 - 0) 0 per rea H _ ls rfl (by omega) hP hD hS (lv_sub hl [1, 2, 0] rfl) hF
def F_X2_readAll_2 (per : Nat → Int32) (r : Int32) : Nat → Nat → (Nat → Int32) → (Nat → Int32)
  | 0, k2, rea => rea
  | r2 + 1, k2, rea => F_X2_readAll_2 per r r2 (k2 + 1) (upd rea k2 (r - r / (per k2) * (per k2)))
def fX2_readAll (per : Nat → Int32) (rea : Nat → Int32) (rn : Nat) (r : Int32) : (Nat → Int32) := F_X2_readAll_2 per r (rn - 0) 0 rea
abbrev rmX2_readAll : Room := { frames := 0, cells := 0, slots := 0, locals := 0 }
set_option maxHeartbeats 4000000 in
set_option maxRecDepth 100000 in
theorem c_X2_readAll (l : Launch) (D : va_G) (cI : ClassId) (sz : Nat) (h : Nat) (tp : Nat) (tq : Nat) (per : Nat → Int32) (rea : Nat → Int32) (rn : Nat) (r : Int32) (hrn : rn ≤ 4) (hper : ∀ i, i < 4 → ¬ per i = 0) : Met l yX2_readAll wsX2_readAll rmX2_readAll (va_Pc [.ref h, .int r] (wrP D [(cI, .int)] [(h, .inr (1, [.ref tp, .ref tq, .int (nI rn)])), (tp, .inl (cI, 4, .inl per)), (tq, .inl (cI, 4, .inl rea))] sz)) (va_Qv (fun (_ : Unit) => True) (fun _ u9 => va_P D vwCl [(h, .inr (1, [.ref tp, .ref tq, .int (nI rn)])), (tp, .inl (cI, 4, .inl per)), (tq, .inl (cI, 4, .inl (fX2_readAll per rea rn r)))] u9.heap) (va_A [(h, .inr (1, [.ref tp, .ref tq, .int (nI rn)])), (tp, .inl (cI, 4, .inl per)), (tq, .inl (cI, 4, .inl rea))] sz)) 0 0 (va_A [(h, .inr (1, [.ref tp, .ref tq, .int (nI rn)])), (tp, .inl (cI, 4, .inl per)), (tq, .inl (cI, 4, .inl rea))] sz) := by
  generalize hF : fX2_readAll per rea rn r = T
  refine Met.ofW (cc := cX2_readAll) (maxL := 3) (ret := none) (by decide) rfl ?_
  intro p e s m args below meth c s₁ B hml hv
  obtain ⟨rfl, hsz, hP, hK, hD0⟩ := hv
  have hx := B.exec
  have hb := B.bytes
  have hr := B.returns
  have hts := atoms_spec (ws := wsX2_readAll) B.pre
  have hown : s.vm.findClass RX2 = some m.cls := findClass_of_methodNamed B.named
  have hlocks := B.notSynchronized
  have hinX2 : ∀ w ∈ u_ws RX2 TX2 3, w ∈ wsX2_readAll := by decide +kernel
  have hf26 := hts (.fieldLink RX2 26 "PulseSigns$Rests" "length" "I") (by decide +kernel)
  have hf15 := hts (.fieldLink RX2 15 "PulseSigns$Rests" "readings" "[I") (by decide +kernel)
  have hf11 := hts (.fieldLink RX2 11 "PulseSigns$Rests" "periods" "[I") (by decide +kernel)
  subst hsz
  have hD := hD0.self (sz := s.heap.size)
  generalize hAe : va_A [(h, .inr (1, [.ref tp, .ref tq, .int (nI rn)])), (tp, .inl (cI, 4, .inl per)), (tq, .inl (cI, 4, .inl rea))] s.heap.size = A at hD ⊢
  have hA : ∀ q : Nat, s.heap.size ≤ q → A q := fun q h => by rw [← hAe]; exact Or.inr h
  have hS : va_S A s.heap s.heap [] := va_S.rf
  have hP : va_P D vwCl [(h, .inr (1, [.ref tp, .ref tq, .int (nI rn)])), (tp, .inl (cI, 4, .inl per)), (tq, .inl (cI, 4, .inl rea))] s.heap := hP
  have hl := lv_entry ([.ref h, .int r]) (n := 3) (Nat.le_of_ble_eq_true rfl)
  rw [lg_entry_eq]
  generalize (lg_sl ([.ref h, .int r]) ++ List.replicate (3 - (lg_sl ([.ref h, .int r])).length) Slot.unset).toArray = ls at hl ⊢
  refine w_Q (fun Q hQ => ?_)
  have hl : lv_has ls 3 [(0, .ref h), (1, .int r)] := hl
  rw [fX2_readAll] at hF
  refine lv_iconst (v := 0) hx hb dX2_readAll_0 (by decide) ?_
  refine lv_istore_n (lv' := [(2, .int 0), (0, .ref h), (1, .int r)]) hx hb dX2_readAll_1 rfl hl (by decide) rfl (fun ls hl => ?_)
  have lp2 : ∀ (r2 k2 : Nat) (rea : Nat → Int32) (H : Heap) (locs : List Loc) (ls : Array Slot), r2 = rn - k2 → k2 ≤ rn + 1 → va_P D vwCl [(h, .inr (1, [.ref tp, .ref tq, .int (nI rn)])), (tp, .inl (cI, 4, .inl per)), (tq, .inl (cI, 4, .inl rea))] H → va_D A [(h, .inr (1, [.ref tp, .ref tq, .int (nI rn)])), (tp, .inl (cI, 4, .inl per)), (tq, .inl (cI, 4, .inl rea))] → va_S A s.heap H locs → lv_has ls 3 [(0, .ref h), (1, .int r), (2, .int (nI k2))] → F_X2_readAll_2 per r r2 k2 rea = T → W p l e (headSpec wsX2_readAll rmX2_readAll).room s m ([.ref h, .int r] : List Value).toArray below meth c H locs 0 0 Q (F0 m 2 ls []) := by
    intro r2
    induction r2 with
    | zero =>
      intro k2 rea H locs ls hi2_0 hi2_1 hP hD hS hl hF
      rw [F_X2_readAll_2] at hF
      refine lv_iload_n hx hb dX2_readAll_2 rfl (lv_at hl 2 rfl) ?_
      refine lv_aload_n hx hb dX2_readAll_3 rfl (lv_at hl 0 rfl) ?_
      refine va_get (D := D) (ci := 1) (v := .int (nI rn)) (C := RX2) (T := TX2) (N := 3) hx hb hts hinX2 hown hK.1 hP 0 rfl rfl 2 (by decide) hf26 (fun _ h9 => h9) rfl dX2_readAll_4 ?_
      refine lv_icmp_ge (tgt := 30) hx hb dX2_readAll_7 (by decide) (fun c7 => ?_) (fun c7 => ?_)
      · skip
        subst hF
        subst hQ
        exact W.vret hx hb hr (fun u9 ht hW => ⟨⟨(), rfl, trivial, by rw [← ht] at hP; exact hP⟩, hS.F ht⟩) hS.2.2 dX2_readAll_30
      · exact False.elim (c7 (nI_le (a := rn) (b := k2) (by omega) (by omega)))
    | succ r2 ih2 =>
      intro k2 rea H locs ls hi2_0 hi2_1 hP hD hS hl hF
      rw [F_X2_readAll_2] at hF
      refine lv_iload_n hx hb dX2_readAll_2 rfl (lv_at hl 2 rfl) ?_
      refine lv_aload_n hx hb dX2_readAll_3 rfl (lv_at hl 0 rfl) ?_
      refine va_get (D := D) (ci := 1) (v := .int (nI rn)) (C := RX2) (T := TX2) (N := 3) hx hb hts hinX2 hown hK.1 hP 0 rfl rfl 2 (by decide) hf26 (fun _ h9 => h9) rfl dX2_readAll_4 ?_
      refine lv_icmp_ge (tgt := 30) hx hb dX2_readAll_7 (by decide) (fun c7 => ?_) (fun c7 => ?_)
      · exact False.elim (nI_ge (a := k2) (b := rn) (by omega) (by omega) c7)
      · skip
        refine lv_aload_n hx hb dX2_readAll_10 rfl (lv_at hl 0 rfl) ?_
        refine va_get (D := D) (ci := 1) (v := .ref tq) (C := RX2) (T := TX2) (N := 3) hx hb hts hinX2 hown hK.1 hP 0 rfl rfl 1 (by decide) hf15 (fun _ h9 => h9) rfl dX2_readAll_11 ?_
        refine lv_iload_n hx hb dX2_readAll_14 rfl (lv_at hl 2 rfl) ?_
        refine lv_iload_n hx hb dX2_readAll_15 rfl (lv_at hl 1 rfl) ?_
        refine lv_aload_n hx hb dX2_readAll_16 rfl (lv_at hl 0 rfl) ?_
        refine va_get (D := D) (ci := 1) (v := .ref tp) (C := RX2) (T := TX2) (N := 3) hx hb hts hinX2 hown hK.1 hP 0 rfl rfl 0 (by decide) hf11 (fun _ h9 => h9) rfl dX2_readAll_17 ?_
        refine lv_iload_n hx hb dX2_readAll_20 rfl (lv_at hl 2 rfl) ?_
        refine w_ald hx hb hK hP 1 0 rfl rfl (k2) rfl (by omega) (by omega) dX2_readAll_21 ?_
        refine lv_irem hx hb dX2_readAll_22 (hper _ (by omega)) ?_
        refine w_ast hx hb hK hP hD hS 2 0 rfl rfl (k2) rfl (by omega) (by omega) dX2_readAll_23 (fun H locs hP hD hS => ?_)
        have hP : va_P D vwCl [(h, .inr (1, [.ref tp, .ref tq, .int (nI rn)])), (tp, .inl (cI, 4, .inl per)), (tq, .inl (cI, 4, .inl (upd rea k2 (r - r / (per k2) * (per k2)))))] H := hP
        have hD : va_D A [(h, .inr (1, [.ref tp, .ref tq, .int (nI rn)])), (tp, .inl (cI, 4, .inl per)), (tq, .inl (cI, 4, .inl (upd rea k2 (r - r / (per k2) * (per k2)))))] := hD
        refine lv_iinc (v := nI (k2 + 1)) (lv' := [(2, .int (nI (k2 + 1))), (0, .ref h), (1, .int r)]) hx hb dX2_readAll_24 hl (k := 2) rfl (nI_1 _) (by decide) rfl (fun ls hl => ?_)
        refine lv_goto (tgt := 2) hx hb dX2_readAll_27 (by decide) ?_
        exact ih2 (k2 + 1) (upd rea k2 (r - r / (per k2) * (per k2))) H locs ls (by omega) (by omega) hP hD hS (lv_sub hl [1, 2, 0] rfl) hF
  exact lp2 (rn - 0) 0 rea s.heap _ ls rfl (by omega) hP hD hS (lv_sub hl [1, 2, 0] rfl) hF
def fX2_isNear (per : Nat → Int32) (rea : Nat → Int32) (i : Nat) (r : Int32) (er : Int32) : Int32 := (if (rea i) = (-1) then 0 else (if er < (if ((per i) - (if 0 ≤ ((rea i) - (r - r / (per i) * (per i))) then (rea i) - (r - r / (per i) * (per i)) else 0 - ((rea i) - (r - r / (per i) * (per i))))) < (if 0 ≤ ((rea i) - (r - r / (per i) * (per i))) then (rea i) - (r - r / (per i) * (per i)) else 0 - ((rea i) - (r - r / (per i) * (per i)))) then (per i) - (if 0 ≤ ((rea i) - (r - r / (per i) * (per i))) then (rea i) - (r - r / (per i) * (per i)) else 0 - ((rea i) - (r - r / (per i) * (per i)))) else if 0 ≤ ((rea i) - (r - r / (per i) * (per i))) then (rea i) - (r - r / (per i) * (per i)) else 0 - ((rea i) - (r - r / (per i) * (per i)))) then 0 else 1))
abbrev rmX2_isNear : Room := { frames := 1, cells := 0, slots := 0, locals := 13 }
set_option maxHeartbeats 4000000 in
set_option maxRecDepth 100000 in
theorem c_X2_isNear (l : Launch) (D : va_G) (cI : ClassId) (h : Nat) (tp : Nat) (tq : Nat) (per : Nat → Int32) (rea : Nat → Int32) (rn : Nat) (i : Nat) (r : Int32) (er : Int32) (hrn : rn ≤ 4) (hper : ∀ i, i < 4 → ¬ per i = 0) (hi : i < 4) : Met l yX2_isNear wsX2_isNear rmX2_isNear (va_Pc [.ref h, .int (nI i), .int r, .int er] (roP D [(cI, .int)] [(h, .inr (1, [.ref tp, .ref tq, .int (nI rn)])), (tp, .inl (cI, 4, .inl per)), (tq, .inl (cI, 4, .inl rea))])) (vp_Si (fun r9 => r9 = fX2_isNear per rea i r er)) 0 0 (fun _ => False) := by
  generalize hF : fX2_isNear per rea i r er = T
  refine Met.ofW (cc := cX2_isNear) (maxL := 5) (ret := (some .boolean)) (by decide) rfl ?_
  intro p e s m args below meth c s₁ B hml hv
  obtain ⟨rfl, hP, hK⟩ := hv
  have hx := B.exec
  have hb := B.bytes
  have hr := B.returns
  have hts := atoms_spec (ws := wsX2_isNear) B.pre
  have hown : s.vm.findClass RX2 = some m.cls := findClass_of_methodNamed B.named
  have hlocks := B.notSynchronized
  have hinX2 : ∀ w ∈ u_ws RX2 TX2 3, w ∈ wsX2_isNear := by decide +kernel
  have hf15 := hts (.fieldLink RX2 15 "PulseSigns$Rests" "readings" "[I") (by decide +kernel)
  have hf11 := hts (.fieldLink RX2 11 "PulseSigns$Rests" "periods" "[I") (by decide +kernel)
  have hml30 := hts (.methodLink RX2 30 Lib.Math.abs.name) (by decide +kernel)
  have hst30 := hts (.static Lib.Math.abs.name) (by decide +kernel)
  have hiM := hts (.initialized "java/lang/Math") (by decide +kernel)
  have hcd30 := hts (.code Lib.Math.abs.name Lib.Math.abs.code 1 (some .int)) (by decide +kernel)
  have hml36 := hts (.methodLink RX2 36 Lib.Math.min.name) (by decide +kernel)
  have hst36 := hts (.static Lib.Math.min.name) (by decide +kernel)
  have hcd36 := hts (.code Lib.Math.min.name Lib.Math.min.code 2 (some .int)) (by decide +kernel)
  have hl := lv_entry ([.ref h, .int (nI i), .int r, .int er]) (n := 5) (Nat.le_of_ble_eq_true rfl)
  rw [lg_entry_eq]
  generalize (lg_sl ([.ref h, .int (nI i), .int r, .int er]) ++ List.replicate (5 - (lg_sl ([.ref h, .int (nI i), .int r, .int er])).length) Slot.unset).toArray = ls at hl ⊢
  refine w_Q (fun Q hQ => ?_)
  have hl : lv_has ls 5 [(0, .ref h), (1, .int (nI i)), (2, .int r), (3, .int er)] := hl
  rw [fX2_isNear] at hF
  refine lv_aload_n hx hb dX2_isNear_0 rfl (lv_at hl 0 rfl) ?_
  refine va_get (D := D) (ci := 1) (v := .ref tq) (C := RX2) (T := TX2) (N := 3) hx hb hts hinX2 hown hK.1 hP 0 rfl rfl 1 (by decide) hf15 (fun _ h9 => h9) rfl dX2_isNear_1 ?_
  refine lv_iload_n hx hb dX2_isNear_4 rfl (lv_at hl 1 rfl) ?_
  refine w_ald hx hb hK hP 2 0 rfl rfl (i) rfl (by omega) (by omega) dX2_isNear_5 ?_
  refine lv_iconst (v := (-1)) hx hb dX2_isNear_6 (by decide) ?_
  refine lv_icmp_ne (tgt := 12) hx hb dX2_isNear_7 (by decide) (fun c7 => ?_) (fun c7 => ?_)
  · rw [if_neg c7] at hF
    refine lv_aload_n hx hb dX2_isNear_12 rfl (lv_at hl 0 rfl) ?_
    refine va_get (D := D) (ci := 1) (v := .ref tq) (C := RX2) (T := TX2) (N := 3) hx hb hts hinX2 hown hK.1 hP 0 rfl rfl 1 (by decide) hf15 (fun _ h9 => h9) rfl dX2_isNear_13 ?_
    refine lv_iload_n hx hb dX2_isNear_16 rfl (lv_at hl 1 rfl) ?_
    refine w_ald hx hb hK hP 2 0 rfl rfl (i) rfl (by omega) (by omega) dX2_isNear_17 ?_
    refine lv_iload_n hx hb dX2_isNear_18 rfl (lv_at hl 2 rfl) ?_
    refine lv_aload_n hx hb dX2_isNear_19 rfl (lv_at hl 0 rfl) ?_
    refine va_get (D := D) (ci := 1) (v := .ref tp) (C := RX2) (T := TX2) (N := 3) hx hb hts hinX2 hown hK.1 hP 0 rfl rfl 0 (by decide) hf11 (fun _ h9 => h9) rfl dX2_isNear_20 ?_
    refine lv_iload_n hx hb dX2_isNear_23 rfl (lv_at hl 1 rfl) ?_
    refine w_ald hx hb hK hP 1 0 rfl rfl (i) rfl (by omega) (by omega) dX2_isNear_24 ?_
    refine lv_irem hx hb dX2_isNear_25 (hper _ hi) ?_
    refine lv_isub hx hb dX2_isNear_26 ?_
    refine va_mabs hx hb (by rw [hml]; exact hl.1.symm) hown hml30 hst30 hiM hcd30 (Nat.le_of_ble_eq_true rfl) (Nat.le_of_ble_eq_true rfl) (Nat.zero_le _) (Nat.zero_le _) dX2_isNear_27 ?_
    refine lv_istore (lv' := [(4, .int (if 0 ≤ ((rea i) - (r - r / (per i) * (per i))) then (rea i) - (r - r / (per i) * (per i)) else 0 - ((rea i) - (r - r / (per i) * (per i))))), (0, .ref h), (1, .int (nI i)), (2, .int r), (3, .int er)]) hx hb dX2_isNear_30 hl (by decide) rfl (fun ls hl => ?_)
    refine lv_iload hx hb dX2_isNear_32 (lv_at hl 0 rfl) ?_
    refine lv_aload_n hx hb dX2_isNear_34 rfl (lv_at hl 1 rfl) ?_
    refine va_get (D := D) (ci := 1) (v := .ref tp) (C := RX2) (T := TX2) (N := 3) hx hb hts hinX2 hown hK.1 hP 0 rfl rfl 0 (by decide) hf11 (fun _ h9 => h9) rfl dX2_isNear_35 ?_
    refine lv_iload_n hx hb dX2_isNear_38 rfl (lv_at hl 2 rfl) ?_
    refine w_ald hx hb hK hP 1 0 rfl rfl (i) rfl (by omega) (by omega) dX2_isNear_39 ?_
    refine lv_iload hx hb dX2_isNear_40 (lv_at hl 0 rfl) ?_
    refine lv_isub hx hb dX2_isNear_42 ?_
    refine va_mmin hx hb (by rw [hml]; exact hl.1.symm) hown hml36 hst36 hiM hcd36 (Nat.le_of_ble_eq_true rfl) (Nat.le_of_ble_eq_true rfl) (Nat.zero_le _) (Nat.zero_le _) dX2_isNear_43 ?_
    refine lv_iload_n hx hb dX2_isNear_46 rfl (lv_at hl 4 rfl) ?_
    refine lv_icmp_gt (tgt := 54) hx hb dX2_isNear_47 (by decide) (fun c47 => ?_) (fun c47 => ?_)
    · rw [if_pos c47] at hF
      refine lv_iconst (v := 0) hx hb dX2_isNear_54 (by decide) ?_
      subst hQ
      exact W.zret (v := 0) (ty := .boolean) hx hb hr rfl (fun u9 ht hW => ⟨_, rfl, hF, ht⟩) (fun q hq => by cases hq) dX2_isNear_55
    · rw [if_neg c47] at hF
      refine lv_iconst (v := 1) hx hb dX2_isNear_50 (by decide) ?_
      refine lv_goto (tgt := 55) hx hb dX2_isNear_51 (by decide) ?_
      subst hQ
      exact W.zret (v := 1) (ty := .boolean) hx hb hr rfl (fun u9 ht hW => ⟨_, rfl, hF, ht⟩) (fun q hq => by cases hq) dX2_isNear_55
  · rw [if_pos c7] at hF
    refine lv_iconst (v := 0) hx hb dX2_isNear_10 (by decide) ?_
    subst hQ
    exact W.zret (v := 0) (ty := .boolean) hx hb hr rfl (fun u9 ht hW => ⟨_, rfl, hF, ht⟩) (fun q hq => by cases hq) dX2_isNear_11
def F_X2_fits_6 (per : Nat → Int32) (rea : Nat → Int32) (r : Int32) (er : Int32) (mm : Int32) : Nat → Nat → Int32 → Int32
  | 0, k6, x4 => (if x4 < mm then 0 else 1)
  | r6 + 1, k6, x4 => (if (fX2_isNear per rea k6 r er) = 0 then F_X2_fits_6 per rea r er mm r6 (k6 + 1) x4 else F_X2_fits_6 per rea r er mm r6 (k6 + 1) (x4 + 1))
def fX2_fits (per : Nat → Int32) (rea : Nat → Int32) (rn : Nat) (r : Int32) (er : Int32) (mm : Int32) : Int32 := F_X2_fits_6 per rea r er mm (rn - 0) 0 0
abbrev rmX2_fits : Room := { frames := 2, cells := 0, slots := 0, locals := 37 }
set_option maxHeartbeats 4000000 in
set_option maxRecDepth 100000 in
theorem c_X2_fits (l : Launch) (D : va_G) (cI : ClassId) (h : Nat) (tp : Nat) (tq : Nat) (per : Nat → Int32) (rea : Nat → Int32) (rn : Nat) (r : Int32) (er : Int32) (mm : Int32) (hrn : rn ≤ 4) (hper : ∀ i, i < 4 → ¬ per i = 0) : Met l yX2_fits wsX2_fits rmX2_fits (va_Pc [.ref h, .int r, .int er, .int mm] (roP D [(cI, .int)] [(h, .inr (1, [.ref tp, .ref tq, .int (nI rn)])), (tp, .inl (cI, 4, .inl per)), (tq, .inl (cI, 4, .inl rea))])) (vp_Si (fun r9 => r9 = fX2_fits per rea rn r er mm)) 0 0 (fun _ => False) := by
  generalize hF : fX2_fits per rea rn r er mm = T
  refine Met.ofW (cc := cX2_fits) (maxL := 6) (ret := (some .boolean)) (by decide) rfl ?_
  intro p e s m args below meth c s₁ B hml hv
  obtain ⟨rfl, hP, hK⟩ := hv
  have hx := B.exec
  have hb := B.bytes
  have hr := B.returns
  have hts := atoms_spec (ws := wsX2_fits) B.pre
  have hown : s.vm.findClass RX2 = some m.cls := findClass_of_methodNamed B.named
  have hlocks := B.notSynchronized
  have hinX2 : ∀ w ∈ u_ws RX2 TX2 3, w ∈ wsX2_fits := by decide +kernel
  have hf26 := hts (.fieldLink RX2 26 "PulseSigns$Rests" "length" "I") (by decide +kernel)
  have hl := lv_entry ([.ref h, .int r, .int er, .int mm]) (n := 6) (Nat.le_of_ble_eq_true rfl)
  rw [lg_entry_eq]
  generalize (lg_sl ([.ref h, .int r, .int er, .int mm]) ++ List.replicate (6 - (lg_sl ([.ref h, .int r, .int er, .int mm])).length) Slot.unset).toArray = ls at hl ⊢
  refine w_Q (fun Q hQ => ?_)
  have hl : lv_has ls 6 [(0, .ref h), (1, .int r), (2, .int er), (3, .int mm)] := hl
  rw [fX2_fits] at hF
  refine lv_iconst (v := 0) hx hb dX2_fits_0 (by decide) ?_
  refine lv_istore (lv' := [(4, .int 0), (0, .ref h), (1, .int r), (2, .int er), (3, .int mm)]) hx hb dX2_fits_1 hl (by decide) rfl (fun ls hl => ?_)
  refine lv_iconst (v := 0) hx hb dX2_fits_3 (by decide) ?_
  refine lv_istore (lv' := [(5, .int 0), (4, .int 0), (0, .ref h), (1, .int r), (2, .int er), (3, .int mm)]) hx hb dX2_fits_4 hl (by decide) rfl (fun ls hl => ?_)
  have lp6 : ∀ (r6 k6 : Nat) (x4 : Int32) (ls : Array Slot), r6 = rn - k6 → k6 ≤ rn + 1 → lv_has ls 6 [(0, .ref h), (1, .int r), (2, .int er), (3, .int mm), (4, .int x4), (5, .int (nI k6))] → F_X2_fits_6 per rea r er mm r6 k6 x4 = T → W p l e (headSpec wsX2_fits rmX2_fits).room s m ([.ref h, .int r, .int er, .int mm] : List Value).toArray below meth c s.heap [] 0 0 Q (F0 m 6 ls []) := by
    intro r6
    induction r6 with
    | zero =>
      intro k6 x4 ls hi6_0 hi6_1 hl hF
      rw [F_X2_fits_6] at hF
      refine lv_iload hx hb dX2_fits_6 (lv_at hl 5 rfl) ?_
      refine lv_aload_n hx hb dX2_fits_8 rfl (lv_at hl 0 rfl) ?_
      refine va_get (D := D) (ci := 1) (v := .int (nI rn)) (C := RX2) (T := TX2) (N := 3) hx hb hts hinX2 hown hK.1 hP 0 rfl rfl 2 (by decide) hf26 (fun _ h9 => h9) rfl dX2_fits_9 ?_
      refine lv_icmp_ge (tgt := 35) hx hb dX2_fits_12 (by decide) (fun c12 => ?_) (fun c12 => ?_)
      · skip
        refine lv_iload hx hb dX2_fits_35 (lv_at hl 4 rfl) ?_
        refine lv_iload_n hx hb dX2_fits_37 rfl (lv_at hl 3 rfl) ?_
        refine lv_icmp_lt (tgt := 45) hx hb dX2_fits_38 (by decide) (fun c38 => ?_) (fun c38 => ?_)
        · rw [if_pos c38] at hF
          refine lv_iconst (v := 0) hx hb dX2_fits_45 (by decide) ?_
          subst hQ
          exact W.zret (v := 0) (ty := .boolean) hx hb hr rfl (fun u9 ht hW => ⟨_, rfl, hF, ht⟩) (fun q hq => by cases hq) dX2_fits_46
        · rw [if_neg c38] at hF
          refine lv_iconst (v := 1) hx hb dX2_fits_41 (by decide) ?_
          refine lv_goto (tgt := 46) hx hb dX2_fits_42 (by decide) ?_
          subst hQ
          exact W.zret (v := 1) (ty := .boolean) hx hb hr rfl (fun u9 ht hW => ⟨_, rfl, hF, ht⟩) (fun q hq => by cases hq) dX2_fits_46
      · exact False.elim (c12 (nI_le (a := rn) (b := k6) (by omega) (by omega)))
    | succ r6 ih6 =>
      intro k6 x4 ls hi6_0 hi6_1 hl hF
      rw [F_X2_fits_6] at hF
      refine lv_iload hx hb dX2_fits_6 (lv_at hl 5 rfl) ?_
      refine lv_aload_n hx hb dX2_fits_8 rfl (lv_at hl 0 rfl) ?_
      refine va_get (D := D) (ci := 1) (v := .int (nI rn)) (C := RX2) (T := TX2) (N := 3) hx hb hts hinX2 hown hK.1 hP 0 rfl rfl 2 (by decide) hf26 (fun _ h9 => h9) rfl dX2_fits_9 ?_
      refine lv_icmp_ge (tgt := 35) hx hb dX2_fits_12 (by decide) (fun c12 => ?_) (fun c12 => ?_)
      · exact False.elim (nI_ge (a := k6) (b := rn) (by omega) (by omega) c12)
      · skip
        refine lv_aload_n hx hb dX2_fits_15 rfl (lv_at hl 0 rfl) ?_
        refine lv_iload hx hb dX2_fits_16 (lv_at hl 5 rfl) ?_
        refine lv_iload_n hx hb dX2_fits_18 rfl (lv_at hl 1 rfl) ?_
        refine lv_iload_n hx hb dX2_fits_19 rfl (lv_at hl 2 rfl) ?_
        refine cs_i (va_runV (As := [.int (nI k6), .int r, .int er]) (rest := []) ⟨hx, hb, hml, hown, hts⟩ (c_X2_isNear l D cI h tp tq per rea rn k6 r er (by first | assumption | omega) (by first | assumption | omega) (by first | assumption | omega)) (cwV 3 hts gX2_fits_X2_isNear rfl rfl rfl (by decide +kernel) ⟨(Nat.le_of_ble_eq_true rfl), (Nat.le_of_ble_eq_true rfl)⟩) (ro_preV hP hK rfl (q0 := 0) rfl) rfl rfl hl.1 rfl (lv_room (Nat.le_of_ble_eq_true rfl)) dX2_fits_20 ⟨Nat.zero_le _, Nat.zero_le _⟩) ?_
        refine lv_if_eq (tgt := 29) hx hb dX2_fits_23 (by decide) (fun c23 => ?_) (fun c23 => ?_)
        · rw [if_pos c23] at hF
          refine lv_iinc (v := nI (k6 + 1)) (lv' := [(5, .int (nI (k6 + 1))), (0, .ref h), (1, .int r), (2, .int er), (3, .int mm), (4, .int x4)]) hx hb dX2_fits_29 hl (k := 5) rfl (nI_1 _) (by decide) rfl (fun ls hl => ?_)
          refine lv_goto (tgt := 6) hx hb dX2_fits_32 (by decide) ?_
          exact ih6 (k6 + 1) x4 ls (by omega) (by omega)  (lv_sub hl [1, 2, 3, 4, 5, 0] rfl) hF
        · rw [if_neg c23] at hF
          refine lv_iinc (v := x4 + 1) (lv' := [(4, .int (x4 + 1)), (0, .ref h), (1, .int r), (2, .int er), (3, .int mm), (5, .int (nI k6))]) hx hb dX2_fits_26 hl (k := 4) rfl rfl (by decide) rfl (fun ls hl => ?_)
          refine lv_iinc (v := nI (k6 + 1)) (lv' := [(5, .int (nI (k6 + 1))), (4, .int (x4 + 1)), (0, .ref h), (1, .int r), (2, .int er), (3, .int mm)]) hx hb dX2_fits_29 hl (k := 5) rfl (nI_1 _) (by decide) rfl (fun ls hl => ?_)
          refine lv_goto (tgt := 6) hx hb dX2_fits_32 (by decide) ?_
          exact ih6 (k6 + 1) (x4 + 1) ls (by omega) (by omega)  (lv_sub hl [2, 3, 4, 5, 1, 0] rfl) hF
  exact lp6 (rn - 0) 0 0 ls rfl (by omega)  (lv_sub hl [2, 3, 4, 5, 1, 0] rfl) hF
def F_X2_fitting_6 (per : Nat → Int32) (rea : Nat → Int32) (rn : Nat) (er : Int32) (mm : Int32) : Nat → Nat → Int32 → Int32
  | 0, k6, x4 => x4
  | r6 + 1, k6, x4 => (if (fX2_fits per rea rn (nI k6) er mm) = 0 then F_X2_fitting_6 per rea rn er mm r6 (k6 + 1) x4 else F_X2_fitting_6 per rea rn er mm r6 (k6 + 1) (x4 + 1))
def fX2_fitting (per : Nat → Int32) (rea : Nat → Int32) (rn : Nat) (er : Int32) (mm : Int32) (sp : Nat) : Int32 := F_X2_fitting_6 per rea rn er mm (sp - 0) 0 0
abbrev rmX2_fitting : Room := { frames := 3, cells := 0, slots := 0, locals := 62 }
set_option maxHeartbeats 4000000 in
set_option maxRecDepth 100000 in
theorem c_X2_fitting (l : Launch) (D : va_G) (cI : ClassId) (h : Nat) (tp : Nat) (tq : Nat) (per : Nat → Int32) (rea : Nat → Int32) (rn : Nat) (er : Int32) (mm : Int32) (sp : Nat) (hrn : rn ≤ 4) (hper : ∀ i, i < 4 → ¬ per i = 0) (hsp : sp ≤ 5000) : Met l yX2_fitting wsX2_fitting rmX2_fitting (va_Pc [.ref h, .int er, .int mm, .int (nI sp)] (roP D [(cI, .int)] [(h, .inr (1, [.ref tp, .ref tq, .int (nI rn)])), (tp, .inl (cI, 4, .inl per)), (tq, .inl (cI, 4, .inl rea))])) (vp_Si (fun r9 => r9 = fX2_fitting per rea rn er mm sp)) 0 0 (fun _ => False) := by
  generalize hF : fX2_fitting per rea rn er mm sp = T
  refine Met.ofW (cc := cX2_fitting) (maxL := 6) (ret := (some .int)) (by decide) rfl ?_
  intro p e s m args below meth c s₁ B hml hv
  obtain ⟨rfl, hP, hK⟩ := hv
  have hx := B.exec
  have hb := B.bytes
  have hr := B.returns
  have hts := atoms_spec (ws := wsX2_fitting) B.pre
  have hown : s.vm.findClass RX2 = some m.cls := findClass_of_methodNamed B.named
  have hlocks := B.notSynchronized
  have hl := lv_entry ([.ref h, .int er, .int mm, .int (nI sp)]) (n := 6) (Nat.le_of_ble_eq_true rfl)
  rw [lg_entry_eq]
  generalize (lg_sl ([.ref h, .int er, .int mm, .int (nI sp)]) ++ List.replicate (6 - (lg_sl ([.ref h, .int er, .int mm, .int (nI sp)])).length) Slot.unset).toArray = ls at hl ⊢
  refine w_Q (fun Q hQ => ?_)
  have hl : lv_has ls 6 [(0, .ref h), (1, .int er), (2, .int mm), (3, .int (nI sp))] := hl
  rw [fX2_fitting] at hF
  refine lv_iconst (v := 0) hx hb dX2_fitting_0 (by decide) ?_
  refine lv_istore (lv' := [(4, .int 0), (0, .ref h), (1, .int er), (2, .int mm), (3, .int (nI sp))]) hx hb dX2_fitting_1 hl (by decide) rfl (fun ls hl => ?_)
  refine lv_iconst (v := 0) hx hb dX2_fitting_3 (by decide) ?_
  refine lv_istore (lv' := [(5, .int 0), (4, .int 0), (0, .ref h), (1, .int er), (2, .int mm), (3, .int (nI sp))]) hx hb dX2_fitting_4 hl (by decide) rfl (fun ls hl => ?_)
  have lp6 : ∀ (r6 k6 : Nat) (x4 : Int32) (ls : Array Slot), r6 = sp - k6 → k6 ≤ sp + 1 → lv_has ls 6 [(0, .ref h), (1, .int er), (2, .int mm), (3, .int (nI sp)), (4, .int x4), (5, .int (nI k6))] → F_X2_fitting_6 per rea rn er mm r6 k6 x4 = T → W p l e (headSpec wsX2_fitting rmX2_fitting).room s m ([.ref h, .int er, .int mm, .int (nI sp)] : List Value).toArray below meth c s.heap [] 0 0 Q (F0 m 6 ls []) := by
    intro r6
    induction r6 with
    | zero =>
      intro k6 x4 ls hi6_0 hi6_1 hl hF
      rw [F_X2_fitting_6] at hF
      refine lv_iload hx hb dX2_fitting_6 (lv_at hl 5 rfl) ?_
      refine lv_iload_n hx hb dX2_fitting_8 rfl (lv_at hl 3 rfl) ?_
      refine lv_icmp_ge (tgt := 32) hx hb dX2_fitting_9 (by decide) (fun c9 => ?_) (fun c9 => ?_)
      · skip
        refine lv_iload hx hb dX2_fitting_32 (lv_at hl 4 rfl) ?_
        subst hQ
        exact W.iret (v := x4) hx hb hr (fun u9 ht hW => ⟨_, rfl, hF, ht⟩) (fun q hq => by cases hq) dX2_fitting_34
      · exact False.elim (c9 (nI_le (a := sp) (b := k6) (by omega) (by omega)))
    | succ r6 ih6 =>
      intro k6 x4 ls hi6_0 hi6_1 hl hF
      rw [F_X2_fitting_6] at hF
      refine lv_iload hx hb dX2_fitting_6 (lv_at hl 5 rfl) ?_
      refine lv_iload_n hx hb dX2_fitting_8 rfl (lv_at hl 3 rfl) ?_
      refine lv_icmp_ge (tgt := 32) hx hb dX2_fitting_9 (by decide) (fun c9 => ?_) (fun c9 => ?_)
      · exact False.elim (nI_ge (a := k6) (b := sp) (by omega) (by omega) c9)
      · skip
        refine lv_aload_n hx hb dX2_fitting_12 rfl (lv_at hl 0 rfl) ?_
        refine lv_iload hx hb dX2_fitting_13 (lv_at hl 5 rfl) ?_
        refine lv_iload_n hx hb dX2_fitting_15 rfl (lv_at hl 1 rfl) ?_
        refine lv_iload_n hx hb dX2_fitting_16 rfl (lv_at hl 2 rfl) ?_
        refine cs_i (va_runV (As := [.int (nI k6), .int er, .int mm]) (rest := []) ⟨hx, hb, hml, hown, hts⟩ (c_X2_fits l D cI h tp tq per rea rn (nI k6) er mm (by first | assumption | omega) (by first | assumption | omega)) (cwV 3 hts gX2_fitting_X2_fits rfl rfl rfl (by decide +kernel) ⟨(Nat.le_of_ble_eq_true rfl), (Nat.le_of_ble_eq_true rfl)⟩) (ro_preV hP hK rfl (q0 := 0) rfl) rfl rfl hl.1 rfl (lv_room (Nat.le_of_ble_eq_true rfl)) dX2_fitting_17 ⟨Nat.zero_le _, Nat.zero_le _⟩) ?_
        refine lv_if_eq (tgt := 26) hx hb dX2_fitting_20 (by decide) (fun c20 => ?_) (fun c20 => ?_)
        · rw [if_pos c20] at hF
          refine lv_iinc (v := nI (k6 + 1)) (lv' := [(5, .int (nI (k6 + 1))), (0, .ref h), (1, .int er), (2, .int mm), (3, .int (nI sp)), (4, .int x4)]) hx hb dX2_fitting_26 hl (k := 5) rfl (nI_1 _) (by decide) rfl (fun ls hl => ?_)
          refine lv_goto (tgt := 6) hx hb dX2_fitting_29 (by decide) ?_
          exact ih6 (k6 + 1) x4 ls (by omega) (by omega)  (lv_sub hl [1, 2, 3, 4, 5, 0] rfl) hF
        · rw [if_neg c20] at hF
          refine lv_iinc (v := x4 + 1) (lv' := [(4, .int (x4 + 1)), (0, .ref h), (1, .int er), (2, .int mm), (3, .int (nI sp)), (5, .int (nI k6))]) hx hb dX2_fitting_23 hl (k := 4) rfl rfl (by decide) rfl (fun ls hl => ?_)
          refine lv_iinc (v := nI (k6 + 1)) (lv' := [(5, .int (nI (k6 + 1))), (4, .int (x4 + 1)), (0, .ref h), (1, .int er), (2, .int mm), (3, .int (nI sp))]) hx hb dX2_fitting_26 hl (k := 5) rfl (nI_1 _) (by decide) rfl (fun ls hl => ?_)
          refine lv_goto (tgt := 6) hx hb dX2_fitting_29 (by decide) ?_
          exact ih6 (k6 + 1) (x4 + 1) ls (by omega) (by omega)  (lv_sub hl [2, 3, 4, 5, 1, 0] rfl) hF
  exact lp6 (sp - 0) 0 0 ls rfl (by omega)  (lv_sub hl [2, 3, 4, 5, 1, 0] rfl) hF
def F_X2_fittingAt_6 (per : Nat → Int32) (rea : Nat → Int32) (rn : Nat) (er : Int32) (mm : Int32) (j : Int32) : Nat → Nat → Int32 → Int32
  | 0, k6, x5 => (-1)
  | r6 + 1, k6, x5 => (if (fX2_fits per rea rn (nI k6) er mm) = 0 then F_X2_fittingAt_6 per rea rn er mm j r6 (k6 + 1) x5 else (if x5 = j then nI k6 else F_X2_fittingAt_6 per rea rn er mm j r6 (k6 + 1) (x5 + 1)))
def fX2_fittingAt (per : Nat → Int32) (rea : Nat → Int32) (rn : Nat) (er : Int32) (mm : Int32) (sp : Nat) (j : Int32) : Int32 := F_X2_fittingAt_6 per rea rn er mm j (sp - 0) 0 0
abbrev rmX2_fittingAt : Room := { frames := 3, cells := 0, slots := 0, locals := 62 }
set_option maxHeartbeats 4000000 in
set_option maxRecDepth 100000 in
theorem c_X2_fittingAt (l : Launch) (D : va_G) (cI : ClassId) (h : Nat) (tp : Nat) (tq : Nat) (per : Nat → Int32) (rea : Nat → Int32) (rn : Nat) (er : Int32) (mm : Int32) (sp : Nat) (j : Int32) (hrn : rn ≤ 4) (hper : ∀ i, i < 4 → ¬ per i = 0) (hsp : sp ≤ 5000) : Met l yX2_fittingAt wsX2_fittingAt rmX2_fittingAt (va_Pc [.ref h, .int er, .int mm, .int (nI sp), .int j] (roP D [(cI, .int)] [(h, .inr (1, [.ref tp, .ref tq, .int (nI rn)])), (tp, .inl (cI, 4, .inl per)), (tq, .inl (cI, 4, .inl rea))])) (vp_Si (fun r9 => r9 = fX2_fittingAt per rea rn er mm sp j)) 0 0 (fun _ => False) := by
  generalize hF : fX2_fittingAt per rea rn er mm sp j = T
  refine Met.ofW (cc := cX2_fittingAt) (maxL := 7) (ret := (some .int)) (by decide) rfl ?_
  intro p e s m args below meth c s₁ B hml hv
  obtain ⟨rfl, hP, hK⟩ := hv
  have hx := B.exec
  have hb := B.bytes
  have hr := B.returns
  have hts := atoms_spec (ws := wsX2_fittingAt) B.pre
  have hown : s.vm.findClass RX2 = some m.cls := findClass_of_methodNamed B.named
  have hlocks := B.notSynchronized
  have hl := lv_entry ([.ref h, .int er, .int mm, .int (nI sp), .int j]) (n := 7) (Nat.le_of_ble_eq_true rfl)
  rw [lg_entry_eq]
  generalize (lg_sl ([.ref h, .int er, .int mm, .int (nI sp), .int j]) ++ List.replicate (7 - (lg_sl ([.ref h, .int er, .int mm, .int (nI sp), .int j])).length) Slot.unset).toArray = ls at hl ⊢
  refine w_Q (fun Q hQ => ?_)
  have hl : lv_has ls 7 [(0, .ref h), (1, .int er), (2, .int mm), (3, .int (nI sp)), (4, .int j)] := hl
  rw [fX2_fittingAt] at hF
  refine lv_iconst (v := 0) hx hb dX2_fittingAt_0 (by decide) ?_
  refine lv_istore (lv' := [(5, .int 0), (0, .ref h), (1, .int er), (2, .int mm), (3, .int (nI sp)), (4, .int j)]) hx hb dX2_fittingAt_1 hl (by decide) rfl (fun ls hl => ?_)
  refine lv_iconst (v := 0) hx hb dX2_fittingAt_3 (by decide) ?_
  refine lv_istore (lv' := [(6, .int 0), (5, .int 0), (0, .ref h), (1, .int er), (2, .int mm), (3, .int (nI sp)), (4, .int j)]) hx hb dX2_fittingAt_4 hl (by decide) rfl (fun ls hl => ?_)
  have lp6 : ∀ (r6 k6 : Nat) (x5 : Int32) (ls : Array Slot), r6 = sp - k6 → k6 ≤ sp + 1 → lv_has ls 7 [(0, .ref h), (1, .int er), (2, .int mm), (3, .int (nI sp)), (4, .int j), (5, .int x5), (6, .int (nI k6))] → F_X2_fittingAt_6 per rea rn er mm j r6 k6 x5 = T → W p l e (headSpec wsX2_fittingAt rmX2_fittingAt).room s m ([.ref h, .int er, .int mm, .int (nI sp), .int j] : List Value).toArray below meth c s.heap [] 0 0 Q (F0 m 6 ls []) := by
    intro r6
    induction r6 with
    | zero =>
      intro k6 x5 ls hi6_0 hi6_1 hl hF
      rw [F_X2_fittingAt_6] at hF
      refine lv_iload hx hb dX2_fittingAt_6 (lv_at hl 6 rfl) ?_
      refine lv_iload_n hx hb dX2_fittingAt_8 rfl (lv_at hl 3 rfl) ?_
      refine lv_icmp_ge (tgt := 42) hx hb dX2_fittingAt_9 (by decide) (fun c9 => ?_) (fun c9 => ?_)
      · skip
        refine lv_iconst (v := (-1)) hx hb dX2_fittingAt_42 (by decide) ?_
        subst hQ
        exact W.iret (v := (-1)) hx hb hr (fun u9 ht hW => ⟨_, rfl, hF, ht⟩) (fun q hq => by cases hq) dX2_fittingAt_43
      · exact False.elim (c9 (nI_le (a := sp) (b := k6) (by omega) (by omega)))
    | succ r6 ih6 =>
      intro k6 x5 ls hi6_0 hi6_1 hl hF
      rw [F_X2_fittingAt_6] at hF
      refine lv_iload hx hb dX2_fittingAt_6 (lv_at hl 6 rfl) ?_
      refine lv_iload_n hx hb dX2_fittingAt_8 rfl (lv_at hl 3 rfl) ?_
      refine lv_icmp_ge (tgt := 42) hx hb dX2_fittingAt_9 (by decide) (fun c9 => ?_) (fun c9 => ?_)
      · exact False.elim (nI_ge (a := k6) (b := sp) (by omega) (by omega) c9)
      · skip
        refine lv_aload_n hx hb dX2_fittingAt_12 rfl (lv_at hl 0 rfl) ?_
        refine lv_iload hx hb dX2_fittingAt_13 (lv_at hl 6 rfl) ?_
        refine lv_iload_n hx hb dX2_fittingAt_15 rfl (lv_at hl 1 rfl) ?_
        refine lv_iload_n hx hb dX2_fittingAt_16 rfl (lv_at hl 2 rfl) ?_
        refine cs_i (va_runV (As := [.int (nI k6), .int er, .int mm]) (rest := []) ⟨hx, hb, hml, hown, hts⟩ (c_X2_fits l D cI h tp tq per rea rn (nI k6) er mm (by first | assumption | omega) (by first | assumption | omega)) (cwV 3 hts gX2_fittingAt_X2_fits rfl rfl rfl (by decide +kernel) ⟨(Nat.le_of_ble_eq_true rfl), (Nat.le_of_ble_eq_true rfl)⟩) (ro_preV hP hK rfl (q0 := 0) rfl) rfl rfl hl.1 rfl (lv_room (Nat.le_of_ble_eq_true rfl)) dX2_fittingAt_17 ⟨Nat.zero_le _, Nat.zero_le _⟩) ?_
        refine lv_if_eq (tgt := 36) hx hb dX2_fittingAt_20 (by decide) (fun c20 => ?_) (fun c20 => ?_)
        · rw [if_pos c20] at hF
          refine lv_iinc (v := nI (k6 + 1)) (lv' := [(6, .int (nI (k6 + 1))), (0, .ref h), (1, .int er), (2, .int mm), (3, .int (nI sp)), (4, .int j), (5, .int x5)]) hx hb dX2_fittingAt_36 hl (k := 6) rfl (nI_1 _) (by decide) rfl (fun ls hl => ?_)
          refine lv_goto (tgt := 6) hx hb dX2_fittingAt_39 (by decide) ?_
          exact ih6 (k6 + 1) x5 ls (by omega) (by omega)  (lv_sub hl [1, 2, 3, 4, 5, 6, 0] rfl) hF
        · rw [if_neg c20] at hF
          refine lv_iload hx hb dX2_fittingAt_23 (lv_at hl 5 rfl) ?_
          refine lv_iload hx hb dX2_fittingAt_25 (lv_at hl 4 rfl) ?_
          refine lv_icmp_ne (tgt := 33) hx hb dX2_fittingAt_27 (by decide) (fun c27 => ?_) (fun c27 => ?_)
          · rw [if_neg c27] at hF
            refine lv_iinc (v := x5 + 1) (lv' := [(5, .int (x5 + 1)), (0, .ref h), (1, .int er), (2, .int mm), (3, .int (nI sp)), (4, .int j), (6, .int (nI k6))]) hx hb dX2_fittingAt_33 hl (k := 5) rfl rfl (by decide) rfl (fun ls hl => ?_)
            refine lv_iinc (v := nI (k6 + 1)) (lv' := [(6, .int (nI (k6 + 1))), (5, .int (x5 + 1)), (0, .ref h), (1, .int er), (2, .int mm), (3, .int (nI sp)), (4, .int j)]) hx hb dX2_fittingAt_36 hl (k := 6) rfl (nI_1 _) (by decide) rfl (fun ls hl => ?_)
            refine lv_goto (tgt := 6) hx hb dX2_fittingAt_39 (by decide) ?_
            exact ih6 (k6 + 1) (x5 + 1) ls (by omega) (by omega)  (lv_sub hl [2, 3, 4, 5, 6, 1, 0] rfl) hF
          · rw [if_pos c27] at hF
            refine lv_iload hx hb dX2_fittingAt_30 (lv_at hl 6 rfl) ?_
            subst hQ
            exact W.iret (v := nI k6) hx hb hr (fun u9 ht hW => ⟨_, rfl, hF, ht⟩) (fun q hq => by cases hq) dX2_fittingAt_32
  exact lp6 (sp - 0) 0 0 ls rfl (by omega)  (lv_sub hl [2, 3, 4, 5, 6, 1, 0] rfl) hF
def F_X2_leastCommon_4 (per : Nat → Int32) : Nat → Nat → Int32 → Int32
  | 0, k4, x1 => x1
  | r4 + 1, k4, x1 => F_X2_leastCommon_4 per r4 (k4 + 1) (x1 * ((per k4) / ((fX6_commonDivisor x1.toInt64 ((per k4).toInt64)).toInt32)))
def fX2_leastCommon (per : Nat → Int32) (rn : Nat) : Int32 := F_X2_leastCommon_4 per (rn - 0) 0 1
abbrev rmX2_leastCommon : Room := { frames := 1, cells := 0, slots := 0, locals := 30 }
set_option maxHeartbeats 4000000 in
set_option maxRecDepth 100000 in
theorem c_X2_leastCommon (l : Launch) (D : va_G) (cI : ClassId) (h : Nat) (tp : Nat) (tq : Nat) (per : Nat → Int32) (rea : Nat → Int32) (rn : Nat) (hrn : rn ≤ 4) (hper : ∀ i, i < 4 → ¬ per i = 0) (hdv : ∀ (x : Int32) (i : Nat), i < 4 → ¬ (fX6_commonDivisor x.toInt64 (per i).toInt64).toInt32 = 0) : Met l yX2_leastCommon wsX2_leastCommon rmX2_leastCommon (va_Pc [.ref h] (roP D [(cI, .int)] [(h, .inr (1, [.ref tp, .ref tq, .int (nI rn)])), (tp, .inl (cI, 4, .inl per)), (tq, .inl (cI, 4, .inl rea))])) (vp_Si (fun r9 => r9 = fX2_leastCommon per rn)) 0 0 (fun _ => False) := by
  generalize hF : fX2_leastCommon per rn = T
  refine Met.ofW (cc := cX2_leastCommon) (maxL := 3) (ret := (some .int)) (by decide) rfl ?_
  intro p e s m args below meth c s₁ B hml hv
  obtain ⟨rfl, hP, hK⟩ := hv
  have hx := B.exec
  have hb := B.bytes
  have hr := B.returns
  have hts := atoms_spec (ws := wsX2_leastCommon) B.pre
  have hown : s.vm.findClass RX2 = some m.cls := findClass_of_methodNamed B.named
  have hlocks := B.notSynchronized
  have hinX2 : ∀ w ∈ u_ws RX2 TX2 3, w ∈ wsX2_leastCommon := by decide +kernel
  have hf26 := hts (.fieldLink RX2 26 "PulseSigns$Rests" "length" "I") (by decide +kernel)
  have hf11 := hts (.fieldLink RX2 11 "PulseSigns$Rests" "periods" "[I") (by decide +kernel)
  have hiniX6 := hts (.initialized RX6) (by decide +kernel)
  have hst_X6_commonDivisor := hts (.static yX6_commonDivisor) (by decide +kernel)
  have hl := lv_entry ([.ref h]) (n := 3) (Nat.le_of_ble_eq_true rfl)
  rw [lg_entry_eq]
  generalize (lg_sl ([.ref h]) ++ List.replicate (3 - (lg_sl ([.ref h])).length) Slot.unset).toArray = ls at hl ⊢
  refine w_Q (fun Q hQ => ?_)
  have hl : lv_has ls 3 [(0, .ref h)] := hl
  rw [fX2_leastCommon] at hF
  refine lv_iconst (v := 1) hx hb dX2_leastCommon_0 (by decide) ?_
  refine lv_istore_n (lv' := [(1, .int 1), (0, .ref h)]) hx hb dX2_leastCommon_1 rfl hl (by decide) rfl (fun ls hl => ?_)
  refine lv_iconst (v := 0) hx hb dX2_leastCommon_2 (by decide) ?_
  refine lv_istore_n (lv' := [(2, .int 0), (1, .int 1), (0, .ref h)]) hx hb dX2_leastCommon_3 rfl hl (by decide) rfl (fun ls hl => ?_)
  have lp4 : ∀ (r4 k4 : Nat) (x1 : Int32) (ls : Array Slot), r4 = rn - k4 → k4 ≤ rn + 1 → lv_has ls 3 [(0, .ref h), (1, .int x1), (2, .int (nI k4))] → F_X2_leastCommon_4 per r4 k4 x1 = T → W p l e (headSpec wsX2_leastCommon rmX2_leastCommon).room s m ([.ref h] : List Value).toArray below meth c s.heap [] 0 0 Q (F0 m 4 ls []) := by
    intro r4
    induction r4 with
    | zero =>
      intro k4 x1 ls hi4_0 hi4_1 hl hF
      rw [F_X2_leastCommon_4] at hF
      refine lv_iload_n hx hb dX2_leastCommon_4 rfl (lv_at hl 2 rfl) ?_
      refine lv_aload_n hx hb dX2_leastCommon_5 rfl (lv_at hl 0 rfl) ?_
      refine va_get (D := D) (ci := 1) (v := .int (nI rn)) (C := RX2) (T := TX2) (N := 3) hx hb hts hinX2 hown hK.1 hP 0 rfl rfl 2 (by decide) hf26 (fun _ h9 => h9) rfl dX2_leastCommon_6 ?_
      refine lv_icmp_ge (tgt := 41) hx hb dX2_leastCommon_9 (by decide) (fun c9 => ?_) (fun c9 => ?_)
      · skip
        refine lv_iload_n hx hb dX2_leastCommon_41 rfl (lv_at hl 1 rfl) ?_
        subst hQ
        exact W.iret (v := x1) hx hb hr (fun u9 ht hW => ⟨_, rfl, hF, ht⟩) (fun q hq => by cases hq) dX2_leastCommon_42
      · exact False.elim (c9 (nI_le (a := rn) (b := k4) (by omega) (by omega)))
    | succ r4 ih4 =>
      intro k4 x1 ls hi4_0 hi4_1 hl hF
      rw [F_X2_leastCommon_4] at hF
      refine lv_iload_n hx hb dX2_leastCommon_4 rfl (lv_at hl 2 rfl) ?_
      refine lv_aload_n hx hb dX2_leastCommon_5 rfl (lv_at hl 0 rfl) ?_
      refine va_get (D := D) (ci := 1) (v := .int (nI rn)) (C := RX2) (T := TX2) (N := 3) hx hb hts hinX2 hown hK.1 hP 0 rfl rfl 2 (by decide) hf26 (fun _ h9 => h9) rfl dX2_leastCommon_6 ?_
      refine lv_icmp_ge (tgt := 41) hx hb dX2_leastCommon_9 (by decide) (fun c9 => ?_) (fun c9 => ?_)
      · exact False.elim (nI_ge (a := k4) (b := rn) (by omega) (by omega) c9)
      · skip
        refine lv_iload_n hx hb dX2_leastCommon_12 rfl (lv_at hl 1 rfl) ?_
        refine lv_aload_n hx hb dX2_leastCommon_13 rfl (lv_at hl 0 rfl) ?_
        refine va_get (D := D) (ci := 1) (v := .ref tp) (C := RX2) (T := TX2) (N := 3) hx hb hts hinX2 hown hK.1 hP 0 rfl rfl 0 (by decide) hf11 (fun _ h9 => h9) rfl dX2_leastCommon_14 ?_
        refine lv_iload_n hx hb dX2_leastCommon_17 rfl (lv_at hl 2 rfl) ?_
        refine w_ald hx hb hK hP 1 0 rfl rfl (k4) rfl (by omega) (by omega) dX2_leastCommon_18 ?_
        refine lv_iload_n hx hb dX2_leastCommon_19 rfl (lv_at hl 1 rfl) ?_
        refine lv_i2l hx hb dX2_leastCommon_20 rfl ?_
        refine lv_aload_n hx hb dX2_leastCommon_21 rfl (lv_at hl 0 rfl) ?_
        refine va_get (D := D) (ci := 1) (v := .ref tp) (C := RX2) (T := TX2) (N := 3) hx hb hts hinX2 hown hK.1 hP 0 rfl rfl 0 (by decide) hf11 (fun _ h9 => h9) rfl dX2_leastCommon_22 ?_
        refine lv_iload_n hx hb dX2_leastCommon_25 rfl (lv_at hl 2 rfl) ?_
        refine w_ald hx hb hK hP 1 0 rfl rfl (k4) rfl (by omega) (by omega) dX2_leastCommon_26 ?_
        refine lv_i2l hx hb dX2_leastCommon_27 rfl ?_
        have hPc := hP.sub (ws' := []) [] rfl
        refine cs_l (va_runSN (As := [.long x1.toInt64, .long ((per k4).toInt64)]) (rest := [.int (per k4), .int x1]) ⟨hx, hb, hml, hown, hts⟩ (c_X6_commonDivisor l D cI x1.toInt64 ((per k4).toInt64) ) ⟨va_cnB 2 hts gX2_leastCommon_X6_commonDivisor_n46 rfl rfl rfl hK.2.2.2.2.2.2.2.1 hiniX6 (by decide +kernel) ⟨(Nat.le_of_ble_eq_true rfl), (Nat.le_of_ble_eq_true rfl)⟩, hst_X6_commonDivisor, trivial⟩ (ro_pre hPc hK) rfl rfl hl.1 rfl (lv_room (Nat.le_of_ble_eq_true rfl)) dX2_leastCommon_28 ⟨Nat.zero_le _, Nat.zero_le _⟩) ?_
        refine lv_l2i hx hb dX2_leastCommon_31 rfl ?_
        refine lv_idiv hx hb dX2_leastCommon_32 (hdv _ _ (by omega)) ?_
        refine lv_imul hx hb dX2_leastCommon_33 ?_
        refine lv_istore_n (lv' := [(1, .int (x1 * ((per k4) / ((fX6_commonDivisor x1.toInt64 ((per k4).toInt64)).toInt32)))), (0, .ref h), (2, .int (nI k4))]) hx hb dX2_leastCommon_34 rfl hl (by decide) rfl (fun ls hl => ?_)
        refine lv_iinc (v := nI (k4 + 1)) (lv' := [(2, .int (nI (k4 + 1))), (1, .int (x1 * ((per k4) / ((fX6_commonDivisor x1.toInt64 ((per k4).toInt64)).toInt32)))), (0, .ref h)]) hx hb dX2_leastCommon_35 hl (k := 2) rfl (nI_1 _) (by decide) rfl (fun ls hl => ?_)
        refine lv_goto (tgt := 4) hx hb dX2_leastCommon_38 (by decide) ?_
        exact ih4 (k4 + 1) (x1 * ((per k4) / ((fX6_commonDivisor x1.toInt64 ((per k4).toInt64)).toInt32))) ls (by omega) (by omega)  (lv_sub hl [2, 1, 0] rfl) hF
  exact lp4 (rn - 0) 0 1 ls rfl (by omega)  (lv_sub hl [2, 1, 0] rfl) hF
def F_X2_unseen_7 (per : Nat → Int32) : Nat → Nat → Int64 → Int32
  | 0, k7, x4 => x4.toInt32
  | r7 + 1, k7, x4 => F_X2_unseen_7 per r7 (k7 + 1) (fX6_commonDivisor x4 ((per k7).toInt64))
def fX2_unseen (per : Nat → Int32) (a : Nat) (b : Nat) (rd : Int32) : Int32 := F_X2_unseen_7 per ((b + 1) - a) a rd.toInt64
abbrev rmX2_unseen : Room := { frames := 1, cells := 0, slots := 0, locals := 30 }
set_option maxHeartbeats 4000000 in
set_option maxRecDepth 100000 in
theorem c_X2_unseen (l : Launch) (D : va_G) (cI : ClassId) (h : Nat) (tp : Nat) (tq : Nat) (per : Nat → Int32) (rea : Nat → Int32) (rn : Nat) (a : Nat) (b : Nat) (lst : Int32) (rd : Int32) (hrn : rn ≤ 4) (hper : ∀ i, i < 4 → ¬ per i = 0) (hb4 : b < 4) (hab : a ≤ b) (hlst : lst = nI b) : Met l yX2_unseen wsX2_unseen rmX2_unseen (va_Pc [.ref h, .int (nI a), .int lst, .int rd] (roP D [(cI, .int)] [(h, .inr (1, [.ref tp, .ref tq, .int (nI rn)])), (tp, .inl (cI, 4, .inl per)), (tq, .inl (cI, 4, .inl rea))])) (vp_Si (fun r9 => r9 = fX2_unseen per a b rd)) 0 0 (fun _ => False) := by
  generalize hF : fX2_unseen per a b rd = T
  refine Met.ofW (cc := cX2_unseen) (maxL := 7) (ret := (some .int)) (by decide) rfl ?_
  intro p e s m args below meth c s₁ B hml hv
  obtain ⟨rfl, hP, hK⟩ := hv
  have hx := B.exec
  have hb := B.bytes
  have hr := B.returns
  have hts := atoms_spec (ws := wsX2_unseen) B.pre
  have hown : s.vm.findClass RX2 = some m.cls := findClass_of_methodNamed B.named
  have hlocks := B.notSynchronized
  have hinX2 : ∀ w ∈ u_ws RX2 TX2 3, w ∈ wsX2_unseen := by decide +kernel
  have hf11 := hts (.fieldLink RX2 11 "PulseSigns$Rests" "periods" "[I") (by decide +kernel)
  have hiniX6 := hts (.initialized RX6) (by decide +kernel)
  have hst_X6_commonDivisor := hts (.static yX6_commonDivisor) (by decide +kernel)
  have hl := lv_entry ([.ref h, .int (nI a), .int lst, .int rd]) (n := 7) (Nat.le_of_ble_eq_true rfl)
  rw [lg_entry_eq]
  generalize (lg_sl ([.ref h, .int (nI a), .int lst, .int rd]) ++ List.replicate (7 - (lg_sl ([.ref h, .int (nI a), .int lst, .int rd])).length) Slot.unset).toArray = ls at hl ⊢
  refine w_Q (fun Q hQ => ?_)
  subst hlst
  have hl : lv_has ls 7 [(0, .ref h), (1, .int (nI a)), (2, .int (nI b)), (3, .int rd)] := hl
  rw [fX2_unseen] at hF
  refine lv_iload_n hx hb dX2_unseen_0 rfl (lv_at hl 3 rfl) ?_
  refine lv_i2l hx hb dX2_unseen_1 rfl ?_
  refine lv_lstore (lv' := [(4, .long rd.toInt64), (0, .ref h), (1, .int (nI a)), (2, .int (nI b)), (3, .int rd)]) hx hb dX2_unseen_2 hl (by decide) rfl (fun ls hl => ?_)
  refine lv_iload_n hx hb dX2_unseen_4 rfl (lv_at hl 2 rfl) ?_
  refine lv_istore (lv' := [(6, .int (nI a)), (4, .long rd.toInt64), (0, .ref h), (1, .int (nI a)), (2, .int (nI b)), (3, .int rd)]) hx hb dX2_unseen_5 hl (by decide) rfl (fun ls hl => ?_)
  have lp7 : ∀ (r7 k7 : Nat) (x4 : Int64) (ls : Array Slot), r7 = (b + 1) - k7 → k7 ≤ (b + 1) + 1 → lv_has ls 7 [(0, .ref h), (1, .int (nI a)), (2, .int (nI b)), (3, .int rd), (4, .long x4), (6, .int (nI k7))] → F_X2_unseen_7 per r7 k7 x4 = T → W p l e (headSpec wsX2_unseen rmX2_unseen).room s m ([.ref h, .int (nI a), .int (nI b), .int rd] : List Value).toArray below meth c s.heap [] 0 0 Q (F0 m 7 ls []) := by
    intro r7
    induction r7 with
    | zero =>
      intro k7 x4 ls hi7_0 hi7_1 hl hF
      rw [F_X2_unseen_7] at hF
      refine lv_iload hx hb dX2_unseen_7 (lv_at hl 5 rfl) ?_
      refine lv_iload_n hx hb dX2_unseen_9 rfl (lv_at hl 2 rfl) ?_
      refine lv_icmp_gt (tgt := 34) hx hb dX2_unseen_10 (by decide) (fun c10 => ?_) (fun c10 => ?_)
      · skip
        refine lv_lload hx hb dX2_unseen_34 (lv_at hl 4 rfl) ?_
        refine lv_l2i hx hb dX2_unseen_36 rfl ?_
        subst hQ
        exact W.iret (v := x4.toInt32) hx hb hr (fun u9 ht hW => ⟨_, rfl, hF, ht⟩) (fun q hq => by cases hq) dX2_unseen_37
      · exact False.elim (c10 (nI_lt (a := b) (b := k7) (by omega) (by omega)))
    | succ r7 ih7 =>
      intro k7 x4 ls hi7_0 hi7_1 hl hF
      rw [F_X2_unseen_7] at hF
      refine lv_iload hx hb dX2_unseen_7 (lv_at hl 5 rfl) ?_
      refine lv_iload_n hx hb dX2_unseen_9 rfl (lv_at hl 2 rfl) ?_
      refine lv_icmp_gt (tgt := 34) hx hb dX2_unseen_10 (by decide) (fun c10 => ?_) (fun c10 => ?_)
      · exact False.elim (nI_nlt (a := b) (b := k7) (by omega) (by omega) c10)
      · skip
        refine lv_lload hx hb dX2_unseen_13 (lv_at hl 4 rfl) ?_
        refine lv_aload_n hx hb dX2_unseen_15 rfl (lv_at hl 0 rfl) ?_
        refine va_get (D := D) (ci := 1) (v := .ref tp) (C := RX2) (T := TX2) (N := 3) hx hb hts hinX2 hown hK.1 hP 0 rfl rfl 0 (by decide) hf11 (fun _ h9 => h9) rfl dX2_unseen_16 ?_
        refine lv_iload hx hb dX2_unseen_19 (lv_at hl 5 rfl) ?_
        refine w_ald hx hb hK hP 1 0 rfl rfl (k7) rfl (by omega) (by omega) dX2_unseen_21 ?_
        refine lv_i2l hx hb dX2_unseen_22 rfl ?_
        have hPc := hP.sub (ws' := []) [] rfl
        refine cs_l (va_runSN (As := [.long x4, .long ((per k7).toInt64)]) (rest := []) ⟨hx, hb, hml, hown, hts⟩ (c_X6_commonDivisor l D cI x4 ((per k7).toInt64) ) ⟨va_cnB 2 hts gX2_unseen_X6_commonDivisor_n46 rfl rfl rfl hK.2.2.2.2.2.2.2.1 hiniX6 (by decide +kernel) ⟨(Nat.le_of_ble_eq_true rfl), (Nat.le_of_ble_eq_true rfl)⟩, hst_X6_commonDivisor, trivial⟩ (ro_pre hPc hK) rfl rfl hl.1 rfl (lv_room (Nat.le_of_ble_eq_true rfl)) dX2_unseen_23 ⟨Nat.zero_le _, Nat.zero_le _⟩) ?_
        refine lv_lstore (lv' := [(4, .long (fX6_commonDivisor x4 ((per k7).toInt64))), (0, .ref h), (1, .int (nI a)), (2, .int (nI b)), (3, .int rd), (6, .int (nI k7))]) hx hb dX2_unseen_26 hl (by decide) rfl (fun ls hl => ?_)
        refine lv_iinc (v := nI (k7 + 1)) (lv' := [(6, .int (nI (k7 + 1))), (4, .long (fX6_commonDivisor x4 ((per k7).toInt64))), (0, .ref h), (1, .int (nI a)), (2, .int (nI b)), (3, .int rd)]) hx hb dX2_unseen_28 hl (k := 5) rfl (nI_1 _) (by decide) rfl (fun ls hl => ?_)
        refine lv_goto (tgt := 7) hx hb dX2_unseen_31 (by decide) ?_
        exact ih7 (k7 + 1) (fX6_commonDivisor x4 ((per k7).toInt64)) ls (by omega) (by omega)  (lv_sub hl [2, 3, 4, 5, 1, 0] rfl) hF
  exact lp7 ((b + 1) - a) a rd.toInt64 ls rfl (by omega)  (lv_sub hl [2, 3, 4, 5, 1, 0] rfl) hF
end
section
def fX3_maySeek (w : Int32) (g : Int32) (k : Int32) (sc : Int32) : Int32 := (if (fX6_within w 1 8) = 0 then 0 else (if (fX6_within g 0 3) = 0 then 0 else (if (fX6_within k 1 8) = 0 then 0 else (if (fX6_within sc 1 500) = 0 then 0 else 1))))
abbrev rmX3_maySeek : Room := { frames := 1, cells := 0, slots := 0, locals := 22 }
set_option maxHeartbeats 4000000 in
set_option maxRecDepth 100000 in
theorem c_X3_maySeek (l : Launch) (D : va_G) (cI : ClassId) (w : Int32) (g : Int32) (k : Int32) (sc : Int32)  : Met l yX3_maySeek wsX3_maySeek rmX3_maySeek (va_Pc [.int w, .int g, .int k, .int sc] (roP D [(cI, .int)] [])) (vp_Si (fun r9 => r9 = fX3_maySeek w g k sc)) 0 0 (fun _ => False) := by
  generalize hF : fX3_maySeek w g k sc = T
  refine Met.ofW (cc := cX3_maySeek) (maxL := 4) (ret := (some .boolean)) (by decide) rfl ?_
  intro p e s m args below meth c s₁ B hml hv
  obtain ⟨rfl, hP, hK⟩ := hv
  have hx := B.exec
  have hb := B.bytes
  have hr := B.returns
  have hts := atoms_spec (ws := wsX3_maySeek) B.pre
  have hown : s.vm.findClass RX3 = some m.cls := findClass_of_methodNamed B.named
  have hlocks := B.notSynchronized
  have hiniX6 := hts (.initialized RX6) (by decide +kernel)
  have hst_X6_within := hts (.static yX6_within) (by decide +kernel)
  have hl := lv_entry ([.int w, .int g, .int k, .int sc]) (n := 4) (Nat.le_of_ble_eq_true rfl)
  rw [lg_entry_eq]
  generalize (lg_sl ([.int w, .int g, .int k, .int sc]) ++ List.replicate (4 - (lg_sl ([.int w, .int g, .int k, .int sc])).length) Slot.unset).toArray = ls at hl ⊢
  refine w_Q (fun Q hQ => ?_)
  have hl : lv_has ls 4 [(0, .int w), (1, .int g), (2, .int k), (3, .int sc)] := hl
  rw [fX3_maySeek] at hF
  refine lv_iload_n hx hb dX3_maySeek_0 rfl (lv_at hl 0 rfl) ?_
  refine lv_iconst (v := 1) hx hb dX3_maySeek_1 (by decide) ?_
  refine lv_bipush (v := 8) hx hb dX3_maySeek_2 (by decide) ?_
  refine cs_i (va_runSN (As := [.int w, .int 1, .int 8]) (rest := []) ⟨hx, hb, hml, hown, hts⟩ (c_X6_within l D cI w 1 8 ) ⟨va_cnB 3 hts gX3_maySeek_X6_within_n20 rfl rfl rfl hK.2.2.2.2.2.2.2.2.1 hiniX6 (by decide +kernel) ⟨(Nat.le_of_ble_eq_true rfl), (Nat.le_of_ble_eq_true rfl)⟩, hst_X6_within, trivial⟩ (ro_pre hP hK) rfl rfl hl.1 rfl (lv_room (Nat.le_of_ble_eq_true rfl)) dX3_maySeek_4 ⟨Nat.zero_le _, Nat.zero_le _⟩) ?_
  refine lv_if_eq (tgt := 44) hx hb dX3_maySeek_7 (by decide) (fun c7 => ?_) (fun c7 => ?_)
  · rw [if_pos c7] at hF
    refine lv_iconst (v := 0) hx hb dX3_maySeek_44 (by decide) ?_
    subst hQ
    exact W.zret (v := 0) (ty := .boolean) hx hb hr rfl (fun u9 ht hW => ⟨_, rfl, hF, ht⟩) (fun q hq => by cases hq) dX3_maySeek_45
  · rw [if_neg c7] at hF
    refine lv_iload_n hx hb dX3_maySeek_10 rfl (lv_at hl 1 rfl) ?_
    refine lv_iconst (v := 0) hx hb dX3_maySeek_11 (by decide) ?_
    refine lv_iconst (v := 3) hx hb dX3_maySeek_12 (by decide) ?_
    refine cs_i (va_runSN (As := [.int g, .int 0, .int 3]) (rest := []) ⟨hx, hb, hml, hown, hts⟩ (c_X6_within l D cI g 0 3 ) ⟨va_cnB 3 hts gX3_maySeek_X6_within_n20 rfl rfl rfl hK.2.2.2.2.2.2.2.2.1 hiniX6 (by decide +kernel) ⟨(Nat.le_of_ble_eq_true rfl), (Nat.le_of_ble_eq_true rfl)⟩, hst_X6_within, trivial⟩ (ro_pre hP hK) rfl rfl hl.1 rfl (lv_room (Nat.le_of_ble_eq_true rfl)) dX3_maySeek_13 ⟨Nat.zero_le _, Nat.zero_le _⟩) ?_
    refine lv_if_eq (tgt := 44) hx hb dX3_maySeek_16 (by decide) (fun c16 => ?_) (fun c16 => ?_)
    · rw [if_pos c16] at hF
      refine lv_iconst (v := 0) hx hb dX3_maySeek_44 (by decide) ?_
      subst hQ
      exact W.zret (v := 0) (ty := .boolean) hx hb hr rfl (fun u9 ht hW => ⟨_, rfl, hF, ht⟩) (fun q hq => by cases hq) dX3_maySeek_45
    · rw [if_neg c16] at hF
      refine lv_iload_n hx hb dX3_maySeek_19 rfl (lv_at hl 2 rfl) ?_
      refine lv_iconst (v := 1) hx hb dX3_maySeek_20 (by decide) ?_
      refine lv_bipush (v := 8) hx hb dX3_maySeek_21 (by decide) ?_
      refine cs_i (va_runSN (As := [.int k, .int 1, .int 8]) (rest := []) ⟨hx, hb, hml, hown, hts⟩ (c_X6_within l D cI k 1 8 ) ⟨va_cnB 3 hts gX3_maySeek_X6_within_n20 rfl rfl rfl hK.2.2.2.2.2.2.2.2.1 hiniX6 (by decide +kernel) ⟨(Nat.le_of_ble_eq_true rfl), (Nat.le_of_ble_eq_true rfl)⟩, hst_X6_within, trivial⟩ (ro_pre hP hK) rfl rfl hl.1 rfl (lv_room (Nat.le_of_ble_eq_true rfl)) dX3_maySeek_23 ⟨Nat.zero_le _, Nat.zero_le _⟩) ?_
      refine lv_if_eq (tgt := 44) hx hb dX3_maySeek_26 (by decide) (fun c26 => ?_) (fun c26 => ?_)
      · rw [if_pos c26] at hF
        refine lv_iconst (v := 0) hx hb dX3_maySeek_44 (by decide) ?_
        subst hQ
        exact W.zret (v := 0) (ty := .boolean) hx hb hr rfl (fun u9 ht hW => ⟨_, rfl, hF, ht⟩) (fun q hq => by cases hq) dX3_maySeek_45
      · rw [if_neg c26] at hF
        refine lv_iload_n hx hb dX3_maySeek_29 rfl (lv_at hl 3 rfl) ?_
        refine lv_iconst (v := 1) hx hb dX3_maySeek_30 (by decide) ?_
        refine lv_sipush (v := 500) hx hb dX3_maySeek_31 (by decide) ?_
        refine cs_i (va_runSN (As := [.int sc, .int 1, .int 500]) (rest := []) ⟨hx, hb, hml, hown, hts⟩ (c_X6_within l D cI sc 1 500 ) ⟨va_cnB 3 hts gX3_maySeek_X6_within_n20 rfl rfl rfl hK.2.2.2.2.2.2.2.2.1 hiniX6 (by decide +kernel) ⟨(Nat.le_of_ble_eq_true rfl), (Nat.le_of_ble_eq_true rfl)⟩, hst_X6_within, trivial⟩ (ro_pre hP hK) rfl rfl hl.1 rfl (lv_room (Nat.le_of_ble_eq_true rfl)) dX3_maySeek_34 ⟨Nat.zero_le _, Nat.zero_le _⟩) ?_
        refine lv_if_eq (tgt := 44) hx hb dX3_maySeek_37 (by decide) (fun c37 => ?_) (fun c37 => ?_)
        · rw [if_pos c37] at hF
          refine lv_iconst (v := 0) hx hb dX3_maySeek_44 (by decide) ?_
          subst hQ
          exact W.zret (v := 0) (ty := .boolean) hx hb hr rfl (fun u9 ht hW => ⟨_, rfl, hF, ht⟩) (fun q hq => by cases hq) dX3_maySeek_45
        · rw [if_neg c37] at hF
          refine lv_iconst (v := 1) hx hb dX3_maySeek_40 (by decide) ?_
          refine lv_goto (tgt := 45) hx hb dX3_maySeek_41 (by decide) ?_
          subst hQ
          exact W.zret (v := 1) (ty := .boolean) hx hb hr rfl (fun u9 ht hW => ⟨_, rfl, hF, ht⟩) (fun q hq => by cases hq) dX3_maySeek_45
def fX3_append (rw : Nat → Int32) (wn : Nat) (v : Int32) : Int32 × Nat × (Nat → Int32) := (if (nI wn) < 64 then (1, (wn + 1), upd rw wn v) else (0, wn, rw))
abbrev rmX3_append : Room := { frames := 0, cells := 0, slots := 0, locals := 0 }
set_option maxHeartbeats 4000000 in
set_option maxRecDepth 100000 in
theorem c_X3_append (l : Launch) (D : va_G) (cI : ClassId) (sz : Nat) (h : Nat) (tn : Nat) (td : Nat) (rw : Nat → Int32) (wn : Nat) (od : Nat → Int32) (v : Int32) (hwn : wn ≤ 64) : Met l yX3_append wsX3_append rmX3_append (va_Pc [.ref h, .int v] (wrP D [(cI, .int)] [(h, .inr (2, [.ref tn, .int (nI wn), .ref td])), (tn, .inl (cI, 64, .inl rw)), (td, .inl (cI, 16, .inl od))] sz)) (va_Qi (fun r9 (_ : Unit) => r9 = (fX3_append rw wn v).1) (fun _ u9 => va_P D vwCl [(h, .inr (2, [.ref tn, .int (nI ((fX3_append rw wn v).2.1)), .ref td])), (tn, .inl (cI, 64, .inl ((fX3_append rw wn v).2.2))), (td, .inl (cI, 16, .inl od))] u9.heap) (va_A [(h, .inr (2, [.ref tn, .int (nI wn), .ref td])), (tn, .inl (cI, 64, .inl rw)), (td, .inl (cI, 16, .inl od))] sz)) 0 0 (va_A [(h, .inr (2, [.ref tn, .int (nI wn), .ref td])), (tn, .inl (cI, 64, .inl rw)), (td, .inl (cI, 16, .inl od))] sz) := by
  generalize hF : fX3_append rw wn v = T
  refine Met.ofW (cc := cX3_append) (maxL := 2) (ret := (some .boolean)) (by decide) rfl ?_
  intro p e s m args below meth c s₁ B hml hv
  obtain ⟨rfl, hsz, hP, hK, hD0⟩ := hv
  have hx := B.exec
  have hb := B.bytes
  have hr := B.returns
  have hts := atoms_spec (ws := wsX3_append) B.pre
  have hown : s.vm.findClass RX3 = some m.cls := findClass_of_methodNamed B.named
  have hlocks := B.notSynchronized
  have hinX3 : ∀ w ∈ u_ws RX3 TX3 3, w ∈ wsX3_append := by decide +kernel
  have hf13 := hts (.fieldLink RX3 13 "PulseSigns$Row" "length" "I") (by decide +kernel)
  have hf9 := hts (.fieldLink RX3 9 "PulseSigns$Row" "numbers" "[I") (by decide +kernel)
  subst hsz
  have hD := hD0.self (sz := s.heap.size)
  generalize hAe : va_A [(h, .inr (2, [.ref tn, .int (nI wn), .ref td])), (tn, .inl (cI, 64, .inl rw)), (td, .inl (cI, 16, .inl od))] s.heap.size = A at hD ⊢
  have hA : ∀ q : Nat, s.heap.size ≤ q → A q := fun q h => by rw [← hAe]; exact Or.inr h
  have hS : va_S A s.heap s.heap [] := va_S.rf
  have hP : va_P D vwCl [(h, .inr (2, [.ref tn, .int (nI wn), .ref td])), (tn, .inl (cI, 64, .inl rw)), (td, .inl (cI, 16, .inl od))] s.heap := hP
  have hl := lv_entry ([.ref h, .int v]) (n := 2) (Nat.le_of_ble_eq_true rfl)
  rw [lg_entry_eq]
  generalize (lg_sl ([.ref h, .int v]) ++ List.replicate (2 - (lg_sl ([.ref h, .int v])).length) Slot.unset).toArray = ls at hl ⊢
  refine w_Q (fun Q hQ => ?_)
  have hl : lv_has ls 2 [(0, .ref h), (1, .int v)] := hl
  rw [fX3_append] at hF
  refine lv_aload_n hx hb dX3_append_0 rfl (lv_at hl 0 rfl) ?_
  refine va_get (D := D) (ci := 2) (v := .int (nI wn)) (C := RX3) (T := TX3) (N := 3) hx hb hts hinX3 hown hK.1 hP 0 rfl rfl 1 (by decide) hf13 (fun _ h9 => h9) rfl dX3_append_1 ?_
  refine lv_bipush (v := 64) hx hb dX3_append_4 (by decide) ?_
  refine lv_icmp_lt (tgt := 11) hx hb dX3_append_6 (by decide) (fun c6 => ?_) (fun c6 => ?_)
  · rw [if_pos c6] at hF
    have q6 : wn < 64 := (nI_ltI (a := wn) (b := 64) (by omega) (by omega)).mp c6
    refine lv_aload_n hx hb dX3_append_11 rfl (lv_at hl 0 rfl) ?_
    refine va_get (D := D) (ci := 2) (v := .ref tn) (C := RX3) (T := TX3) (N := 3) hx hb hts hinX3 hown hK.1 hP 0 rfl rfl 0 (by decide) hf9 (fun _ h9 => h9) rfl dX3_append_12 ?_
    refine lv_aload_n hx hb dX3_append_15 rfl (lv_at hl 0 rfl) ?_
    refine va_get (D := D) (ci := 2) (v := .int (nI wn)) (C := RX3) (T := TX3) (N := 3) hx hb hts hinX3 hown hK.1 hP 0 rfl rfl 1 (by decide) hf13 (fun _ h9 => h9) rfl dX3_append_16 ?_
    refine lv_iload_n hx hb dX3_append_19 rfl (lv_at hl 1 rfl) ?_
    refine w_ast hx hb hK hP hD hS 1 0 rfl rfl (wn) rfl (by omega) (by omega) dX3_append_20 (fun H locs hP hD hS => ?_)
    have hP : va_P D vwCl [(h, .inr (2, [.ref tn, .int (nI wn), .ref td])), (tn, .inl (cI, 64, .inl (upd rw wn v))), (td, .inl (cI, 16, .inl od))] H := hP
    have hD : va_D A [(h, .inr (2, [.ref tn, .int (nI wn), .ref td])), (tn, .inl (cI, 64, .inl (upd rw wn v))), (td, .inl (cI, 16, .inl od))] := hD
    refine lv_aload_n hx hb dX3_append_21 rfl (lv_at hl 0 rfl) ?_
    refine lv_dup hx hb dX3_append_22 rfl ?_
    refine va_get (D := D) (ci := 2) (v := .int (nI wn)) (C := RX3) (T := TX3) (N := 3) hx hb hts hinX3 hown hK.1 hP 0 rfl rfl 1 (by decide) hf13 (fun _ h9 => h9) rfl dX3_append_23 ?_
    refine lv_iconst (v := 1) hx hb dX3_append_26 (by decide) ?_
    refine lv_iadd hx hb dX3_append_27 ?_
    rw [nI_1]
    refine va_put (D := D) (ci := 2) (v := .int (nI (wn + 1))) (ty := .int) (C := RX3) (T := TX3) (N := 3) hx hb hts hinX3 tyX3 tyX3_ok nmX3 hown hK.1 hP hD hS 0 rfl rfl 1 (by decide) hf13 (fun _ h9 => h9) rfl (by decide +kernel) rfl rfl (Nat.le_of_ble_eq_true rfl) dX3_append_28 (fun H locs hP hD hS => ?_)
    have hP : va_P D vwCl [(h, .inr (2, [.ref tn, .int (nI (wn + 1)), .ref td])), (tn, .inl (cI, 64, .inl (upd rw wn v))), (td, .inl (cI, 16, .inl od))] H := hP
    have hD : va_D A [(h, .inr (2, [.ref tn, .int (nI (wn + 1)), .ref td])), (tn, .inl (cI, 64, .inl (upd rw wn v))), (td, .inl (cI, 16, .inl od))] := hD
    refine lv_iconst (v := 1) hx hb dX3_append_31 (by decide) ?_
    subst hF
    subst hQ
    exact W.zret (v := 1) (ty := .boolean) hx hb hr rfl (fun u9 ht hW => ⟨⟨_, (), rfl, rfl, by rw [← ht] at hP; exact hP⟩, hS.F ht⟩) hS.2.2 dX3_append_32
  · rw [if_neg c6] at hF
    refine lv_iconst (v := 0) hx hb dX3_append_9 (by decide) ?_
    subst hF
    subst hQ
    exact W.zret (v := 0) (ty := .boolean) hx hb hr rfl (fun u9 ht hW => ⟨⟨_, (), rfl, rfl, by rw [← ht] at hP; exact hP⟩, hS.F ht⟩) hS.2.2 dX3_append_10
def F_X3_insert_2 (v : Int32) : Nat → Nat → (Nat → Int32) → (Nat → Int32)
  | 0, k2, od => upd od k2 v
  | r2 + 1, k2, od => (if (od (k2 - 1)) ≤ v then upd od k2 v else F_X3_insert_2 v r2 (k2 - 1) (upd od k2 (od (k2 - 1))))
def fX3_insert (od : Nat → Int32) (v : Int32) (m2 : Nat) : (Nat → Int32) := F_X3_insert_2 v m2 m2 od
abbrev rmX3_insert : Room := { frames := 0, cells := 0, slots := 0, locals := 0 }
set_option maxHeartbeats 4000000 in
set_option maxRecDepth 100000 in
theorem c_X3_insert (l : Launch) (D : va_G) (cI : ClassId) (sz : Nat) (h : Nat) (tn : Nat) (td : Nat) (rw : Nat → Int32) (wn : Nat) (od : Nat → Int32) (v : Int32) (m2 : Nat) (hm : m2 < 16) : Met l yX3_insert wsX3_insert rmX3_insert (va_Pc [.ref h, .int v, .int (nI m2)] (wrP D [(cI, .int)] [(h, .inr (2, [.ref tn, .int (nI wn), .ref td])), (tn, .inl (cI, 64, .inl rw)), (td, .inl (cI, 16, .inl od))] sz)) (va_Qv (fun (_ : Unit) => True) (fun _ u9 => va_P D vwCl [(h, .inr (2, [.ref tn, .int (nI wn), .ref td])), (tn, .inl (cI, 64, .inl rw)), (td, .inl (cI, 16, .inl (fX3_insert od v m2)))] u9.heap) (va_A [(h, .inr (2, [.ref tn, .int (nI wn), .ref td])), (tn, .inl (cI, 64, .inl rw)), (td, .inl (cI, 16, .inl od))] sz)) 0 0 (va_A [(h, .inr (2, [.ref tn, .int (nI wn), .ref td])), (tn, .inl (cI, 64, .inl rw)), (td, .inl (cI, 16, .inl od))] sz) := by
  generalize hF : fX3_insert od v m2 = T
  refine Met.ofW (cc := cX3_insert) (maxL := 4) (ret := none) (by decide) rfl ?_
  intro p e s m args below meth c s₁ B hml hv
  obtain ⟨rfl, hsz, hP, hK, hD0⟩ := hv
  have hx := B.exec
  have hb := B.bytes
  have hr := B.returns
  have hts := atoms_spec (ws := wsX3_insert) B.pre
  have hown : s.vm.findClass RX3 = some m.cls := findClass_of_methodNamed B.named
  have hlocks := B.notSynchronized
  have hinX3 : ∀ w ∈ u_ws RX3 TX3 3, w ∈ wsX3_insert := by decide +kernel
  have hf17 := hts (.fieldLink RX3 17 "PulseSigns$Row" "ordered" "[I") (by decide +kernel)
  subst hsz
  have hD := hD0.self (sz := s.heap.size)
  generalize hAe : va_A [(h, .inr (2, [.ref tn, .int (nI wn), .ref td])), (tn, .inl (cI, 64, .inl rw)), (td, .inl (cI, 16, .inl od))] s.heap.size = A at hD ⊢
  have hA : ∀ q : Nat, s.heap.size ≤ q → A q := fun q h => by rw [← hAe]; exact Or.inr h
  have hS : va_S A s.heap s.heap [] := va_S.rf
  have hP : va_P D vwCl [(h, .inr (2, [.ref tn, .int (nI wn), .ref td])), (tn, .inl (cI, 64, .inl rw)), (td, .inl (cI, 16, .inl od))] s.heap := hP
  have hl := lv_entry ([.ref h, .int v, .int (nI m2)]) (n := 4) (Nat.le_of_ble_eq_true rfl)
  rw [lg_entry_eq]
  generalize (lg_sl ([.ref h, .int v, .int (nI m2)]) ++ List.replicate (4 - (lg_sl ([.ref h, .int v, .int (nI m2)])).length) Slot.unset).toArray = ls at hl ⊢
  refine w_Q (fun Q hQ => ?_)
  have hl : lv_has ls 4 [(0, .ref h), (1, .int v), (2, .int (nI m2))] := hl
  rw [fX3_insert] at hF
  refine lv_iload_n hx hb dX3_insert_0 rfl (lv_at hl 2 rfl) ?_
  refine lv_istore_n (lv' := [(3, .int (nI m2)), (0, .ref h), (1, .int v), (2, .int (nI m2))]) hx hb dX3_insert_1 rfl hl (by decide) rfl (fun ls hl => ?_)
  have lp2 : ∀ (r2 k2 : Nat) (od : Nat → Int32) (H : Heap) (locs : List Loc) (ls : Array Slot), k2 = r2 → k2 ≤ m2 → va_P D vwCl [(h, .inr (2, [.ref tn, .int (nI wn), .ref td])), (tn, .inl (cI, 64, .inl rw)), (td, .inl (cI, 16, .inl od))] H → va_D A [(h, .inr (2, [.ref tn, .int (nI wn), .ref td])), (tn, .inl (cI, 64, .inl rw)), (td, .inl (cI, 16, .inl od))] → va_S A s.heap H locs → lv_has ls 4 [(0, .ref h), (1, .int v), (2, .int (nI m2)), (3, .int (nI k2))] → F_X3_insert_2 v r2 k2 od = T → W p l e (headSpec wsX3_insert rmX3_insert).room s m ([.ref h, .int v, .int (nI m2)] : List Value).toArray below meth c H locs 0 0 Q (F0 m 2 ls []) := by
    intro r2
    induction r2 with
    | zero =>
      intro k2 od H locs ls hi2_0 hi2_1 hP hD hS hl hF
      rw [F_X3_insert_2] at hF
      refine lv_iload_n hx hb dX3_insert_2 rfl (lv_at hl 3 rfl) ?_
      refine lv_if_le (tgt := 38) hx hb dX3_insert_3 (by decide) (fun c3 => ?_) (fun c3 => ?_)
      · skip
        refine lv_aload_n hx hb dX3_insert_38 rfl (lv_at hl 0 rfl) ?_
        refine va_get (D := D) (ci := 2) (v := .ref td) (C := RX3) (T := TX3) (N := 3) hx hb hts hinX3 hown hK.1 hP 0 rfl rfl 2 (by decide) hf17 (fun _ h9 => h9) rfl dX3_insert_39 ?_
        refine lv_iload_n hx hb dX3_insert_42 rfl (lv_at hl 3 rfl) ?_
        refine lv_iload_n hx hb dX3_insert_43 rfl (lv_at hl 1 rfl) ?_
        refine w_ast hx hb hK hP hD hS 2 0 rfl rfl (k2) rfl (by omega) (by omega) dX3_insert_44 (fun H locs hP hD hS => ?_)
        have hP : va_P D vwCl [(h, .inr (2, [.ref tn, .int (nI wn), .ref td])), (tn, .inl (cI, 64, .inl rw)), (td, .inl (cI, 16, .inl (upd od k2 v)))] H := hP
        have hD : va_D A [(h, .inr (2, [.ref tn, .int (nI wn), .ref td])), (tn, .inl (cI, 64, .inl rw)), (td, .inl (cI, 16, .inl (upd od k2 v)))] := hD
        subst hF
        subst hQ
        exact W.vret hx hb hr (fun u9 ht hW => ⟨⟨(), rfl, trivial, by rw [← ht] at hP; exact hP⟩, hS.F ht⟩) hS.2.2 dX3_insert_45
      · exact False.elim (c3 (nI_le (a := k2) (b := 0) (by omega) (by omega)))
    | succ r2 ih2 =>
      intro k2 od H locs ls hi2_0 hi2_1 hP hD hS hl hF
      rw [F_X3_insert_2] at hF
      refine lv_iload_n hx hb dX3_insert_2 rfl (lv_at hl 3 rfl) ?_
      refine lv_if_le (tgt := 38) hx hb dX3_insert_3 (by decide) (fun c3 => ?_) (fun c3 => ?_)
      · exact False.elim (nI_nle (by omega) (by omega) c3)
      · skip
        refine lv_aload_n hx hb dX3_insert_6 rfl (lv_at hl 0 rfl) ?_
        refine va_get (D := D) (ci := 2) (v := .ref td) (C := RX3) (T := TX3) (N := 3) hx hb hts hinX3 hown hK.1 hP 0 rfl rfl 2 (by decide) hf17 (fun _ h9 => h9) rfl dX3_insert_7 ?_
        refine lv_iload_n hx hb dX3_insert_10 rfl (lv_at hl 3 rfl) ?_
        refine lv_iconst (v := 1) hx hb dX3_insert_11 (by decide) ?_
        refine lv_isub hx hb dX3_insert_12 ?_
        refine w_ald hx hb hK hP 2 0 rfl rfl (k2 - 1) (pk_sub (b := 1) (by omega)) (by omega) (by omega) dX3_insert_13 ?_
        refine lv_iload_n hx hb dX3_insert_14 rfl (lv_at hl 1 rfl) ?_
        refine lv_icmp_le (tgt := 38) hx hb dX3_insert_15 (by decide) (fun c15 => ?_) (fun c15 => ?_)
        · rw [if_pos c15] at hF
          refine lv_aload_n hx hb dX3_insert_38 rfl (lv_at hl 0 rfl) ?_
          refine va_get (D := D) (ci := 2) (v := .ref td) (C := RX3) (T := TX3) (N := 3) hx hb hts hinX3 hown hK.1 hP 0 rfl rfl 2 (by decide) hf17 (fun _ h9 => h9) rfl dX3_insert_39 ?_
          refine lv_iload_n hx hb dX3_insert_42 rfl (lv_at hl 3 rfl) ?_
          refine lv_iload_n hx hb dX3_insert_43 rfl (lv_at hl 1 rfl) ?_
          refine w_ast hx hb hK hP hD hS 2 0 rfl rfl (k2) rfl (by omega) (by omega) dX3_insert_44 (fun H locs hP hD hS => ?_)
          have hP : va_P D vwCl [(h, .inr (2, [.ref tn, .int (nI wn), .ref td])), (tn, .inl (cI, 64, .inl rw)), (td, .inl (cI, 16, .inl (upd od k2 v)))] H := hP
          have hD : va_D A [(h, .inr (2, [.ref tn, .int (nI wn), .ref td])), (tn, .inl (cI, 64, .inl rw)), (td, .inl (cI, 16, .inl (upd od k2 v)))] := hD
          subst hF
          subst hQ
          exact W.vret hx hb hr (fun u9 ht hW => ⟨⟨(), rfl, trivial, by rw [← ht] at hP; exact hP⟩, hS.F ht⟩) hS.2.2 dX3_insert_45
        · rw [if_neg c15] at hF
          refine lv_aload_n hx hb dX3_insert_18 rfl (lv_at hl 0 rfl) ?_
          refine va_get (D := D) (ci := 2) (v := .ref td) (C := RX3) (T := TX3) (N := 3) hx hb hts hinX3 hown hK.1 hP 0 rfl rfl 2 (by decide) hf17 (fun _ h9 => h9) rfl dX3_insert_19 ?_
          refine lv_iload_n hx hb dX3_insert_22 rfl (lv_at hl 3 rfl) ?_
          refine lv_aload_n hx hb dX3_insert_23 rfl (lv_at hl 0 rfl) ?_
          refine va_get (D := D) (ci := 2) (v := .ref td) (C := RX3) (T := TX3) (N := 3) hx hb hts hinX3 hown hK.1 hP 0 rfl rfl 2 (by decide) hf17 (fun _ h9 => h9) rfl dX3_insert_24 ?_
          refine lv_iload_n hx hb dX3_insert_27 rfl (lv_at hl 3 rfl) ?_
          refine lv_iconst (v := 1) hx hb dX3_insert_28 (by decide) ?_
          refine lv_isub hx hb dX3_insert_29 ?_
          refine w_ald hx hb hK hP 2 0 rfl rfl (k2 - 1) (pk_sub (b := 1) (by omega)) (by omega) (by omega) dX3_insert_30 ?_
          refine w_ast hx hb hK hP hD hS 2 0 rfl rfl (k2) rfl (by omega) (by omega) dX3_insert_31 (fun H locs hP hD hS => ?_)
          have hP : va_P D vwCl [(h, .inr (2, [.ref tn, .int (nI wn), .ref td])), (tn, .inl (cI, 64, .inl rw)), (td, .inl (cI, 16, .inl (upd od k2 (od (k2 - 1)))))] H := hP
          have hD : va_D A [(h, .inr (2, [.ref tn, .int (nI wn), .ref td])), (tn, .inl (cI, 64, .inl rw)), (td, .inl (cI, 16, .inl (upd od k2 (od (k2 - 1)))))] := hD
          refine lv_iinc (v := nI (k2 - 1)) (lv' := [(3, .int (nI (k2 - 1))), (0, .ref h), (1, .int v), (2, .int (nI m2))]) hx hb dX3_insert_32 hl (k := 3) rfl (sb_m1 (by omega)) (by decide) rfl (fun ls hl => ?_)
          refine lv_goto (tgt := 2) hx hb dX3_insert_35 (by decide) ?_
          exact ih2 (k2 - 1) (upd od k2 (od (k2 - 1))) H locs ls (by omega) (by omega) hP hD hS (lv_sub hl [1, 2, 3, 0] rfl) hF
  exact lp2 m2 m2 od s.heap _ ls rfl (Nat.le_refl _) hP hD hS (lv_sub hl [1, 2, 3, 0] rfl) hF
def F_X3_orderNeighbours_8 (rw : Nat → Int32) (wn : Nat) (x : Nat) : Nat → Nat → Nat → (Nat → Int32) → (Int32 × (Nat → Int32))
  | 0, k8, x4, od => (nI x4, od)
  | r8 + 1, k8, x4, od => (if ((nI x) - (nI k8)) < 0 then (if (nI wn) ≤ ((nI x) + (nI k8)) then F_X3_orderNeighbours_8 rw wn x r8 (k8 + 1) x4 od else F_X3_orderNeighbours_8 rw wn x r8 (k8 + 1) (x4 + 1) (fX3_insert od (rw (x + k8)) x4)) else (if (nI wn) ≤ ((nI x) + (nI k8)) then F_X3_orderNeighbours_8 rw wn x r8 (k8 + 1) (x4 + 1) (fX3_insert od (rw (x - k8)) x4) else F_X3_orderNeighbours_8 rw wn x r8 (k8 + 1) ((x4 + 1) + 1) (fX3_insert (fX3_insert od (rw (x - k8)) x4) (rw (x + k8)) (x4 + 1))))
def fX3_orderNeighbours (rw : Nat → Int32) (wn : Nat) (od : Nat → Int32) (x : Nat) (w : Nat) (g : Nat) : Int32 × (Nat → Int32) := F_X3_orderNeighbours_8 rw wn x ((g + w + 1) - (g + 1)) (g + 1) 0 od
abbrev rmX3_orderNeighbours : Room := { frames := 1, cells := 0, slots := 0, locals := 23 }
set_option maxHeartbeats 4000000 in
set_option maxRecDepth 100000 in
theorem c_X3_orderNeighbours (l : Launch) (D : va_G) (cI : ClassId) (sz : Nat) (h : Nat) (tn : Nat) (td : Nat) (rw : Nat → Int32) (wn : Nat) (od : Nat → Int32) (x : Nat) (w : Nat) (g : Nat) (hwn : wn ≤ 64) (hx0 : x < 64) (hw : w ≤ 8) (hg : g ≤ 3) : Met l yX3_orderNeighbours wsX3_orderNeighbours rmX3_orderNeighbours (va_Pc [.ref h, .int (nI x), .int (nI w), .int (nI g)] (wrP D [(cI, .int)] [(h, .inr (2, [.ref tn, .int (nI wn), .ref td])), (tn, .inl (cI, 64, .inl rw)), (td, .inl (cI, 16, .inl od))] sz)) (va_Qi (fun r9 (_ : Unit) => r9 = (fX3_orderNeighbours rw wn od x w g).1) (fun _ u9 => va_P D vwCl [(h, .inr (2, [.ref tn, .int (nI wn), .ref td])), (tn, .inl (cI, 64, .inl rw)), (td, .inl (cI, 16, .inl ((fX3_orderNeighbours rw wn od x w g).2)))] u9.heap) (va_A [(h, .inr (2, [.ref tn, .int (nI wn), .ref td])), (tn, .inl (cI, 64, .inl rw)), (td, .inl (cI, 16, .inl od))] sz)) 0 0 (va_A [(h, .inr (2, [.ref tn, .int (nI wn), .ref td])), (tn, .inl (cI, 64, .inl rw)), (td, .inl (cI, 16, .inl od))] sz) := by
  generalize hF : fX3_orderNeighbours rw wn od x w g = T
  refine Met.ofW (cc := cX3_orderNeighbours) (maxL := 6) (ret := (some .int)) (by decide) rfl ?_
  intro p e s m args below meth c s₁ B hml hv
  obtain ⟨rfl, hsz, hP, hK, hD0⟩ := hv
  have hx := B.exec
  have hb := B.bytes
  have hr := B.returns
  have hts := atoms_spec (ws := wsX3_orderNeighbours) B.pre
  have hown : s.vm.findClass RX3 = some m.cls := findClass_of_methodNamed B.named
  have hlocks := B.notSynchronized
  have hinX3 : ∀ w ∈ u_ws RX3 TX3 3, w ∈ wsX3_orderNeighbours := by decide +kernel
  have hf13 := hts (.fieldLink RX3 13 "PulseSigns$Row" "length" "I") (by decide +kernel)
  have hf9 := hts (.fieldLink RX3 9 "PulseSigns$Row" "numbers" "[I") (by decide +kernel)
  subst hsz
  have hD := hD0.self (sz := s.heap.size)
  generalize hAe : va_A [(h, .inr (2, [.ref tn, .int (nI wn), .ref td])), (tn, .inl (cI, 64, .inl rw)), (td, .inl (cI, 16, .inl od))] s.heap.size = A at hD ⊢
  have hA : ∀ q : Nat, s.heap.size ≤ q → A q := fun q h => by rw [← hAe]; exact Or.inr h
  have hS : va_S A s.heap s.heap [] := va_S.rf
  have hP : va_P D vwCl [(h, .inr (2, [.ref tn, .int (nI wn), .ref td])), (tn, .inl (cI, 64, .inl rw)), (td, .inl (cI, 16, .inl od))] s.heap := hP
  have hl := lv_entry ([.ref h, .int (nI x), .int (nI w), .int (nI g)]) (n := 6) (Nat.le_of_ble_eq_true rfl)
  rw [lg_entry_eq]
  generalize (lg_sl ([.ref h, .int (nI x), .int (nI w), .int (nI g)]) ++ List.replicate (6 - (lg_sl ([.ref h, .int (nI x), .int (nI w), .int (nI g)])).length) Slot.unset).toArray = ls at hl ⊢
  refine w_Q (fun Q hQ => ?_)
  have hl : lv_has ls 6 [(0, .ref h), (1, .int (nI x)), (2, .int (nI w)), (3, .int (nI g))] := hl
  rw [fX3_orderNeighbours] at hF
  refine lv_iconst (v := 0) hx hb dX3_orderNeighbours_0 (by decide) ?_
  refine lv_istore (lv' := [(4, .int 0), (0, .ref h), (1, .int (nI x)), (2, .int (nI w)), (3, .int (nI g))]) hx hb dX3_orderNeighbours_1 hl (by decide) rfl (fun ls hl => ?_)
  refine lv_iload_n hx hb dX3_orderNeighbours_3 rfl (lv_at hl 4 rfl) ?_
  refine lv_iconst (v := 1) hx hb dX3_orderNeighbours_4 (by decide) ?_
  refine lv_iadd hx hb dX3_orderNeighbours_5 ?_
  rw [nI_1]
  refine lv_istore (lv' := [(5, .int (nI (g + 1))), (4, .int 0), (0, .ref h), (1, .int (nI x)), (2, .int (nI w)), (3, .int (nI g))]) hx hb dX3_orderNeighbours_6 hl (by decide) rfl (fun ls hl => ?_)
  have lp8 : ∀ (r8 k8 : Nat) (x4 : Nat) (od : Nat → Int32) (H : Heap) (locs : List Loc) (ls : Array Slot), r8 = (g + w + 1) - k8 → k8 ≤ g + w + 2 → g + 1 ≤ k8 → x4 ≤ 2 * (k8 - (g + 1)) → va_P D vwCl [(h, .inr (2, [.ref tn, .int (nI wn), .ref td])), (tn, .inl (cI, 64, .inl rw)), (td, .inl (cI, 16, .inl od))] H → va_D A [(h, .inr (2, [.ref tn, .int (nI wn), .ref td])), (tn, .inl (cI, 64, .inl rw)), (td, .inl (cI, 16, .inl od))] → va_S A s.heap H locs → lv_has ls 6 [(0, .ref h), (1, .int (nI x)), (2, .int (nI w)), (3, .int (nI g)), (4, .int (nI x4)), (5, .int (nI k8))] → F_X3_orderNeighbours_8 rw wn x r8 k8 x4 od = T → W p l e (headSpec wsX3_orderNeighbours rmX3_orderNeighbours).room s m ([.ref h, .int (nI x), .int (nI w), .int (nI g)] : List Value).toArray below meth c H locs 0 0 Q (F0 m 8 ls []) := by
    intro r8
    induction r8 with
    | zero =>
      intro k8 x4 od H locs ls hi8_0 hi8_1 hi8_2 hi8_3 hP hD hS hl hF
      rw [F_X3_orderNeighbours_8] at hF
      refine lv_iload hx hb dX3_orderNeighbours_8 (lv_at hl 5 rfl) ?_
      refine lv_iload_n hx hb dX3_orderNeighbours_10 rfl (lv_at hl 3 rfl) ?_
      refine lv_iload_n hx hb dX3_orderNeighbours_11 rfl (lv_at hl 2 rfl) ?_
      refine lv_iadd hx hb dX3_orderNeighbours_12 ?_
      refine lv_icmp_gt (tgt := 76) hx hb dX3_orderNeighbours_13 (by decide) (fun c13 => ?_) (fun c13 => ?_)
      · skip
        refine lv_iload hx hb dX3_orderNeighbours_76 (lv_at hl 4 rfl) ?_
        subst hF
        subst hQ
        exact W.iret (v := nI x4) hx hb hr (fun u9 ht hW => ⟨⟨_, (), rfl, rfl, by rw [← ht] at hP; exact hP⟩, hS.F ht⟩) hS.2.2 dX3_orderNeighbours_78
      · exact False.elim (c13 (by rw [nI_add]; exact nI_lt (by omega) (by omega)))
    | succ r8 ih8 =>
      intro k8 x4 od H locs ls hi8_0 hi8_1 hi8_2 hi8_3 hP hD hS hl hF
      rw [F_X3_orderNeighbours_8] at hF
      refine lv_iload hx hb dX3_orderNeighbours_8 (lv_at hl 5 rfl) ?_
      refine lv_iload_n hx hb dX3_orderNeighbours_10 rfl (lv_at hl 3 rfl) ?_
      refine lv_iload_n hx hb dX3_orderNeighbours_11 rfl (lv_at hl 2 rfl) ?_
      refine lv_iadd hx hb dX3_orderNeighbours_12 ?_
      refine lv_icmp_gt (tgt := 76) hx hb dX3_orderNeighbours_13 (by decide) (fun c13 => ?_) (fun c13 => ?_)
      · exact False.elim ((by rw [nI_add] at c13; exact nI_nlt (by omega) (by omega) c13))
      · skip
        refine lv_iload_n hx hb dX3_orderNeighbours_16 rfl (lv_at hl 1 rfl) ?_
        refine lv_iload hx hb dX3_orderNeighbours_17 (lv_at hl 5 rfl) ?_
        refine lv_isub hx hb dX3_orderNeighbours_19 ?_
        refine lv_if_lt (tgt := 41) hx hb dX3_orderNeighbours_20 (by decide) (fun c20 => ?_) (fun c20 => ?_)
        · rw [if_pos c20] at hF
          refine lv_iload_n hx hb dX3_orderNeighbours_41 rfl (lv_at hl 1 rfl) ?_
          refine lv_iload hx hb dX3_orderNeighbours_42 (lv_at hl 5 rfl) ?_
          refine lv_iadd hx hb dX3_orderNeighbours_44 ?_
          refine lv_aload_n hx hb dX3_orderNeighbours_45 rfl (lv_at hl 0 rfl) ?_
          refine va_get (D := D) (ci := 2) (v := .int (nI wn)) (C := RX3) (T := TX3) (N := 3) hx hb hts hinX3 hown hK.1 hP 0 rfl rfl 1 (by decide) hf13 (fun _ h9 => h9) rfl dX3_orderNeighbours_46 ?_
          refine lv_icmp_ge (tgt := 70) hx hb dX3_orderNeighbours_49 (by decide) (fun c49 => ?_) (fun c49 => ?_)
          · rw [if_pos c49] at hF
            refine lv_iinc (v := nI (k8 + 1)) (lv' := [(5, .int (nI (k8 + 1))), (0, .ref h), (1, .int (nI x)), (2, .int (nI w)), (3, .int (nI g)), (4, .int (nI x4))]) hx hb dX3_orderNeighbours_70 hl (k := 5) rfl (nI_1 _) (by decide) rfl (fun ls hl => ?_)
            refine lv_goto (tgt := 8) hx hb dX3_orderNeighbours_73 (by decide) ?_
            exact ih8 (k8 + 1) x4 od H locs ls (by omega) (by omega) (by omega) (by omega) hP hD hS (lv_sub hl [1, 2, 3, 4, 5, 0] rfl) hF
          · rw [if_neg c49] at hF
            refine lv_aload_n hx hb dX3_orderNeighbours_52 rfl (lv_at hl 0 rfl) ?_
            refine lv_aload_n hx hb dX3_orderNeighbours_53 rfl (lv_at hl 0 rfl) ?_
            refine va_get (D := D) (ci := 2) (v := .ref tn) (C := RX3) (T := TX3) (N := 3) hx hb hts hinX3 hown hK.1 hP 0 rfl rfl 0 (by decide) hf9 (fun _ h9 => h9) rfl dX3_orderNeighbours_54 ?_
            refine lv_iload_n hx hb dX3_orderNeighbours_57 rfl (lv_at hl 1 rfl) ?_
            refine lv_iload hx hb dX3_orderNeighbours_58 (lv_at hl 5 rfl) ?_
            refine lv_iadd hx hb dX3_orderNeighbours_60 ?_
            have q49 : x + k8 < wn := by rw [nI_add] at c49; exact Nat.lt_of_not_le (fun h => c49 (nI_le h (by omega)))
            refine w_ald hx hb hK hP 1 0 rfl rfl (x + k8) (nI_add _ _) (by omega) (by omega) dX3_orderNeighbours_61 ?_
            refine lv_iload hx hb dX3_orderNeighbours_62 (lv_at hl 4 rfl) ?_
            refine cw_v (va_runV (As := [.int (rw (x + k8)), .int (nI x4)]) (rest := []) ⟨hx, hb, hml, hown, hts⟩ (c_X3_insert l D cI H.size h tn td rw wn od (rw (x + k8)) x4 (by first | assumption | omega)) (cwV 2 hts gX3_orderNeighbours_X3_insert rfl rfl rfl (by decide +kernel) ⟨(Nat.le_of_ble_eq_true rfl), (Nat.le_of_ble_eq_true rfl)⟩) (wr_preV hP hD hK rfl (q0 := 0) rfl) rfl rfl hl.1 rfl (lv_room (Nat.le_of_ble_eq_true rfl)) dX3_orderNeighbours_64 ⟨Nat.zero_le _, Nat.zero_le _⟩) hP hD hS hA [0, 1, 2] rfl rfl (fun H locs hP hD hS => ?_)
            have hP : va_P D vwCl [(h, .inr (2, [.ref tn, .int (nI wn), .ref td])), (tn, .inl (cI, 64, .inl rw)), (td, .inl (cI, 16, .inl (fX3_insert od (rw (x + k8)) x4)))] H := hP
            have hD : va_D A [(h, .inr (2, [.ref tn, .int (nI wn), .ref td])), (tn, .inl (cI, 64, .inl rw)), (td, .inl (cI, 16, .inl (fX3_insert od (rw (x + k8)) x4)))] := hD
            refine lv_iinc (v := nI (x4 + 1)) (lv' := [(4, .int (nI (x4 + 1))), (0, .ref h), (1, .int (nI x)), (2, .int (nI w)), (3, .int (nI g)), (5, .int (nI k8))]) hx hb dX3_orderNeighbours_67 hl (k := 4) rfl (nI_1 _) (by decide) rfl (fun ls hl => ?_)
            refine lv_iinc (v := nI (k8 + 1)) (lv' := [(5, .int (nI (k8 + 1))), (4, .int (nI (x4 + 1))), (0, .ref h), (1, .int (nI x)), (2, .int (nI w)), (3, .int (nI g))]) hx hb dX3_orderNeighbours_70 hl (k := 5) rfl (nI_1 _) (by decide) rfl (fun ls hl => ?_)
            refine lv_goto (tgt := 8) hx hb dX3_orderNeighbours_73 (by decide) ?_
            exact ih8 (k8 + 1) (x4 + 1) (fX3_insert od (rw (x + k8)) x4) H locs ls (by omega) (by omega) (by omega) (by omega) hP hD hS (lv_sub hl [2, 3, 4, 5, 1, 0] rfl) hF
        · rw [if_neg c20] at hF
          refine lv_aload_n hx hb dX3_orderNeighbours_23 rfl (lv_at hl 0 rfl) ?_
          refine lv_aload_n hx hb dX3_orderNeighbours_24 rfl (lv_at hl 0 rfl) ?_
          refine va_get (D := D) (ci := 2) (v := .ref tn) (C := RX3) (T := TX3) (N := 3) hx hb hts hinX3 hown hK.1 hP 0 rfl rfl 0 (by decide) hf9 (fun _ h9 => h9) rfl dX3_orderNeighbours_25 ?_
          refine lv_iload_n hx hb dX3_orderNeighbours_28 rfl (lv_at hl 1 rfl) ?_
          refine lv_iload hx hb dX3_orderNeighbours_29 (lv_at hl 5 rfl) ?_
          refine lv_isub hx hb dX3_orderNeighbours_31 ?_
          have q20 : k8 ≤ x := Nat.le_of_not_lt (fun h => c20 (pk_sneg (by omega) h))
          refine w_ald hx hb hK hP 1 0 rfl rfl (x - k8) (pk_sub q20) (by omega) (by omega) dX3_orderNeighbours_32 ?_
          refine lv_iload hx hb dX3_orderNeighbours_33 (lv_at hl 4 rfl) ?_
          refine cw_v (va_runV (As := [.int (rw (x - k8)), .int (nI x4)]) (rest := []) ⟨hx, hb, hml, hown, hts⟩ (c_X3_insert l D cI H.size h tn td rw wn od (rw (x - k8)) x4 (by first | assumption | omega)) (cwV 2 hts gX3_orderNeighbours_X3_insert rfl rfl rfl (by decide +kernel) ⟨(Nat.le_of_ble_eq_true rfl), (Nat.le_of_ble_eq_true rfl)⟩) (wr_preV hP hD hK rfl (q0 := 0) rfl) rfl rfl hl.1 rfl (lv_room (Nat.le_of_ble_eq_true rfl)) dX3_orderNeighbours_35 ⟨Nat.zero_le _, Nat.zero_le _⟩) hP hD hS hA [0, 1, 2] rfl rfl (fun H locs hP hD hS => ?_)
          have hP : va_P D vwCl [(h, .inr (2, [.ref tn, .int (nI wn), .ref td])), (tn, .inl (cI, 64, .inl rw)), (td, .inl (cI, 16, .inl (fX3_insert od (rw (x - k8)) x4)))] H := hP
          have hD : va_D A [(h, .inr (2, [.ref tn, .int (nI wn), .ref td])), (tn, .inl (cI, 64, .inl rw)), (td, .inl (cI, 16, .inl (fX3_insert od (rw (x - k8)) x4)))] := hD
          refine lv_iinc (v := nI (x4 + 1)) (lv' := [(4, .int (nI (x4 + 1))), (0, .ref h), (1, .int (nI x)), (2, .int (nI w)), (3, .int (nI g)), (5, .int (nI k8))]) hx hb dX3_orderNeighbours_38 hl (k := 4) rfl (nI_1 _) (by decide) rfl (fun ls hl => ?_)
          refine lv_iload_n hx hb dX3_orderNeighbours_41 rfl (lv_at hl 2 rfl) ?_
          refine lv_iload hx hb dX3_orderNeighbours_42 (lv_at hl 5 rfl) ?_
          refine lv_iadd hx hb dX3_orderNeighbours_44 ?_
          refine lv_aload_n hx hb dX3_orderNeighbours_45 rfl (lv_at hl 1 rfl) ?_
          refine va_get (D := D) (ci := 2) (v := .int (nI wn)) (C := RX3) (T := TX3) (N := 3) hx hb hts hinX3 hown hK.1 hP 0 rfl rfl 1 (by decide) hf13 (fun _ h9 => h9) rfl dX3_orderNeighbours_46 ?_
          refine lv_icmp_ge (tgt := 70) hx hb dX3_orderNeighbours_49 (by decide) (fun c49 => ?_) (fun c49 => ?_)
          · rw [if_pos c49] at hF
            refine lv_iinc (v := nI (k8 + 1)) (lv' := [(5, .int (nI (k8 + 1))), (4, .int (nI (x4 + 1))), (0, .ref h), (1, .int (nI x)), (2, .int (nI w)), (3, .int (nI g))]) hx hb dX3_orderNeighbours_70 hl (k := 5) rfl (nI_1 _) (by decide) rfl (fun ls hl => ?_)
            refine lv_goto (tgt := 8) hx hb dX3_orderNeighbours_73 (by decide) ?_
            exact ih8 (k8 + 1) (x4 + 1) (fX3_insert od (rw (x - k8)) x4) H locs ls (by omega) (by omega) (by omega) (by omega) hP hD hS (lv_sub hl [2, 3, 4, 5, 1, 0] rfl) hF
          · rw [if_neg c49] at hF
            refine lv_aload_n hx hb dX3_orderNeighbours_52 rfl (lv_at hl 1 rfl) ?_
            refine lv_aload_n hx hb dX3_orderNeighbours_53 rfl (lv_at hl 1 rfl) ?_
            refine va_get (D := D) (ci := 2) (v := .ref tn) (C := RX3) (T := TX3) (N := 3) hx hb hts hinX3 hown hK.1 hP 0 rfl rfl 0 (by decide) hf9 (fun _ h9 => h9) rfl dX3_orderNeighbours_54 ?_
            refine lv_iload_n hx hb dX3_orderNeighbours_57 rfl (lv_at hl 2 rfl) ?_
            refine lv_iload hx hb dX3_orderNeighbours_58 (lv_at hl 5 rfl) ?_
            refine lv_iadd hx hb dX3_orderNeighbours_60 ?_
            have q49 : x + k8 < wn := by rw [nI_add] at c49; exact Nat.lt_of_not_le (fun h => c49 (nI_le h (by omega)))
            refine w_ald hx hb hK hP 1 0 rfl rfl (x + k8) (nI_add _ _) (by omega) (by omega) dX3_orderNeighbours_61 ?_
            refine lv_iload hx hb dX3_orderNeighbours_62 (lv_at hl 0 rfl) ?_
            refine cw_v (va_runV (As := [.int (rw (x + k8)), .int (nI (x4 + 1))]) (rest := []) ⟨hx, hb, hml, hown, hts⟩ (c_X3_insert l D cI H.size h tn td rw wn (fX3_insert od (rw (x - k8)) x4) (rw (x + k8)) (x4 + 1) (by first | assumption | omega)) (cwV 2 hts gX3_orderNeighbours_X3_insert rfl rfl rfl (by decide +kernel) ⟨(Nat.le_of_ble_eq_true rfl), (Nat.le_of_ble_eq_true rfl)⟩) (wr_preV hP hD hK rfl (q0 := 0) rfl) rfl rfl hl.1 rfl (lv_room (Nat.le_of_ble_eq_true rfl)) dX3_orderNeighbours_64 ⟨Nat.zero_le _, Nat.zero_le _⟩) hP hD hS hA [0, 1, 2] rfl rfl (fun H locs hP hD hS => ?_)
            have hP : va_P D vwCl [(h, .inr (2, [.ref tn, .int (nI wn), .ref td])), (tn, .inl (cI, 64, .inl rw)), (td, .inl (cI, 16, .inl (fX3_insert (fX3_insert od (rw (x - k8)) x4) (rw (x + k8)) (x4 + 1))))] H := hP
            have hD : va_D A [(h, .inr (2, [.ref tn, .int (nI wn), .ref td])), (tn, .inl (cI, 64, .inl rw)), (td, .inl (cI, 16, .inl (fX3_insert (fX3_insert od (rw (x - k8)) x4) (rw (x + k8)) (x4 + 1))))] := hD
            refine lv_iinc (v := nI ((x4 + 1) + 1)) (lv' := [(4, .int (nI ((x4 + 1) + 1))), (0, .ref h), (1, .int (nI x)), (2, .int (nI w)), (3, .int (nI g)), (5, .int (nI k8))]) hx hb dX3_orderNeighbours_67 hl (k := 0) rfl (nI_1 _) (by decide) rfl (fun ls hl => ?_)
            refine lv_iinc (v := nI (k8 + 1)) (lv' := [(5, .int (nI (k8 + 1))), (4, .int (nI ((x4 + 1) + 1))), (0, .ref h), (1, .int (nI x)), (2, .int (nI w)), (3, .int (nI g))]) hx hb dX3_orderNeighbours_70 hl (k := 5) rfl (nI_1 _) (by decide) rfl (fun ls hl => ?_)
            refine lv_goto (tgt := 8) hx hb dX3_orderNeighbours_73 (by decide) ?_
            exact ih8 (k8 + 1) ((x4 + 1) + 1) (fX3_insert (fX3_insert od (rw (x - k8)) x4) (rw (x + k8)) (x4 + 1)) H locs ls (by omega) (by omega) (by omega) (by omega) hP hD hS (lv_sub hl [2, 3, 4, 5, 1, 0] rfl) hF
  exact lp8 ((g + w + 1) - (g + 1)) (g + 1) 0 od s.heap _ ls rfl (by omega) (by omega) (by omega) hP hD hS (lv_sub hl [2, 3, 4, 5, 1, 0] rfl) hF
def fX3_standsOut (rw : Nat → Int32) (wn : Nat) (od : Nat → Int32) (x : Nat) (w : Nat) (g : Nat) (k : Nat) (sc : Int32) : Int32 × (Nat → Int32) := (if ((fX3_orderNeighbours rw wn od x w g).1) < (nI k) then (0, (fX3_orderNeighbours rw wn od x w g).2) else (if (10 * (rw x)) ≤ (sc * (((fX3_orderNeighbours rw wn od x w g).2) (k - 1))) then (0, (fX3_orderNeighbours rw wn od x w g).2) else (1, (fX3_orderNeighbours rw wn od x w g).2)))
abbrev rmX3_standsOut : Room := { frames := 2, cells := 0, slots := 0, locals := 48 }
set_option maxHeartbeats 4000000 in
set_option maxRecDepth 100000 in
theorem c_X3_standsOut (l : Launch) (D : va_G) (cI : ClassId) (sz : Nat) (h : Nat) (tn : Nat) (td : Nat) (rw : Nat → Int32) (wn : Nat) (od : Nat → Int32) (x : Nat) (w : Nat) (g : Nat) (k : Nat) (sc : Int32) (hwn : wn ≤ 64) (hx0 : x < 64) (hw : w ≤ 8) (hg : g ≤ 3) (hk1 : 1 ≤ k) (hk : k ≤ 8) : Met l yX3_standsOut wsX3_standsOut rmX3_standsOut (va_Pc [.ref h, .int (nI x), .int (nI w), .int (nI g), .int (nI k), .int sc] (wrP D [(cI, .int)] [(h, .inr (2, [.ref tn, .int (nI wn), .ref td])), (tn, .inl (cI, 64, .inl rw)), (td, .inl (cI, 16, .inl od))] sz)) (va_Qi (fun r9 (_ : Unit) => r9 = (fX3_standsOut rw wn od x w g k sc).1) (fun _ u9 => va_P D vwCl [(h, .inr (2, [.ref tn, .int (nI wn), .ref td])), (tn, .inl (cI, 64, .inl rw)), (td, .inl (cI, 16, .inl ((fX3_standsOut rw wn od x w g k sc).2)))] u9.heap) (va_A [(h, .inr (2, [.ref tn, .int (nI wn), .ref td])), (tn, .inl (cI, 64, .inl rw)), (td, .inl (cI, 16, .inl od))] sz)) 0 0 (va_A [(h, .inr (2, [.ref tn, .int (nI wn), .ref td])), (tn, .inl (cI, 64, .inl rw)), (td, .inl (cI, 16, .inl od))] sz) := by
  generalize hF : fX3_standsOut rw wn od x w g k sc = T
  refine Met.ofW (cc := cX3_standsOut) (maxL := 7) (ret := (some .boolean)) (by decide) rfl ?_
  intro p e s m args below meth c s₁ B hml hv
  obtain ⟨rfl, hsz, hP, hK, hD0⟩ := hv
  have hx := B.exec
  have hb := B.bytes
  have hr := B.returns
  have hts := atoms_spec (ws := wsX3_standsOut) B.pre
  have hown : s.vm.findClass RX3 = some m.cls := findClass_of_methodNamed B.named
  have hlocks := B.notSynchronized
  have hinX3 : ∀ w ∈ u_ws RX3 TX3 3, w ∈ wsX3_standsOut := by decide +kernel
  have hf9 := hts (.fieldLink RX3 9 "PulseSigns$Row" "numbers" "[I") (by decide +kernel)
  have hf17 := hts (.fieldLink RX3 17 "PulseSigns$Row" "ordered" "[I") (by decide +kernel)
  subst hsz
  have hD := hD0.self (sz := s.heap.size)
  generalize hAe : va_A [(h, .inr (2, [.ref tn, .int (nI wn), .ref td])), (tn, .inl (cI, 64, .inl rw)), (td, .inl (cI, 16, .inl od))] s.heap.size = A at hD ⊢
  have hA : ∀ q : Nat, s.heap.size ≤ q → A q := fun q h => by rw [← hAe]; exact Or.inr h
  have hS : va_S A s.heap s.heap [] := va_S.rf
  have hP : va_P D vwCl [(h, .inr (2, [.ref tn, .int (nI wn), .ref td])), (tn, .inl (cI, 64, .inl rw)), (td, .inl (cI, 16, .inl od))] s.heap := hP
  have hl := lv_entry ([.ref h, .int (nI x), .int (nI w), .int (nI g), .int (nI k), .int sc]) (n := 7) (Nat.le_of_ble_eq_true rfl)
  rw [lg_entry_eq]
  generalize (lg_sl ([.ref h, .int (nI x), .int (nI w), .int (nI g), .int (nI k), .int sc]) ++ List.replicate (7 - (lg_sl ([.ref h, .int (nI x), .int (nI w), .int (nI g), .int (nI k), .int sc])).length) Slot.unset).toArray = ls at hl ⊢
  refine w_Q (fun Q hQ => ?_)
  have hl : lv_has ls 7 [(0, .ref h), (1, .int (nI x)), (2, .int (nI w)), (3, .int (nI g)), (4, .int (nI k)), (5, .int sc)] := hl
  rw [fX3_standsOut] at hF
  refine lv_aload_n hx hb dX3_standsOut_0 rfl (lv_at hl 0 rfl) ?_
  refine lv_iload_n hx hb dX3_standsOut_1 rfl (lv_at hl 1 rfl) ?_
  refine lv_iload_n hx hb dX3_standsOut_2 rfl (lv_at hl 2 rfl) ?_
  refine lv_iload_n hx hb dX3_standsOut_3 rfl (lv_at hl 3 rfl) ?_
  refine cw_i (va_runV (As := [.int (nI x), .int (nI w), .int (nI g)]) (rest := []) ⟨hx, hb, hml, hown, hts⟩ (c_X3_orderNeighbours l D cI s.heap.size h tn td rw wn od x w g (by first | assumption | omega) (by first | assumption | omega) (by first | assumption | omega) (by first | assumption | omega)) (cwV 3 hts gX3_standsOut_X3_orderNeighbours rfl rfl rfl (by decide +kernel) ⟨(Nat.le_of_ble_eq_true rfl), (Nat.le_of_ble_eq_true rfl)⟩) (wr_preV hP hD hK rfl (q0 := 0) rfl) rfl rfl hl.1 rfl (lv_room (Nat.le_of_ble_eq_true rfl)) dX3_standsOut_4 ⟨Nat.zero_le _, Nat.zero_le _⟩) hP hD hS hA [0, 1, 2] rfl rfl (fun H locs hP hD hS => ?_)
  have hP : va_P D vwCl [(h, .inr (2, [.ref tn, .int (nI wn), .ref td])), (tn, .inl (cI, 64, .inl rw)), (td, .inl (cI, 16, .inl ((fX3_orderNeighbours rw wn od x w g).2)))] H := hP
  have hD : va_D A [(h, .inr (2, [.ref tn, .int (nI wn), .ref td])), (tn, .inl (cI, 64, .inl rw)), (td, .inl (cI, 16, .inl ((fX3_orderNeighbours rw wn od x w g).2)))] := hD
  refine lv_istore (lv' := [(6, .int ((fX3_orderNeighbours rw wn od x w g).1)), (0, .ref h), (1, .int (nI x)), (2, .int (nI w)), (3, .int (nI g)), (4, .int (nI k)), (5, .int sc)]) hx hb dX3_standsOut_7 hl (by decide) rfl (fun ls hl => ?_)
  refine lv_iload hx hb dX3_standsOut_9 (lv_at hl 0 rfl) ?_
  refine lv_iload hx hb dX3_standsOut_11 (lv_at hl 5 rfl) ?_
  refine lv_icmp_lt (tgt := 44) hx hb dX3_standsOut_13 (by decide) (fun c13 => ?_) (fun c13 => ?_)
  · rw [if_pos c13] at hF
    refine lv_iconst (v := 0) hx hb dX3_standsOut_44 (by decide) ?_
    subst hF
    subst hQ
    exact W.zret (v := 0) (ty := .boolean) hx hb hr rfl (fun u9 ht hW => ⟨⟨_, (), rfl, rfl, by rw [← ht] at hP; exact hP⟩, hS.F ht⟩) hS.2.2 dX3_standsOut_45
  · rw [if_neg c13] at hF
    refine lv_bipush (v := 10) hx hb dX3_standsOut_16 (by decide) ?_
    refine lv_aload_n hx hb dX3_standsOut_18 rfl (lv_at hl 1 rfl) ?_
    refine va_get (D := D) (ci := 2) (v := .ref tn) (C := RX3) (T := TX3) (N := 3) hx hb hts hinX3 hown hK.1 hP 0 rfl rfl 0 (by decide) hf9 (fun _ h9 => h9) rfl dX3_standsOut_19 ?_
    refine lv_iload_n hx hb dX3_standsOut_22 rfl (lv_at hl 2 rfl) ?_
    refine w_ald hx hb hK hP 1 0 rfl rfl (x) rfl (by omega) (by omega) dX3_standsOut_23 ?_
    refine lv_imul hx hb dX3_standsOut_24 ?_
    refine lv_iload hx hb dX3_standsOut_25 (lv_at hl 6 rfl) ?_
    refine lv_aload_n hx hb dX3_standsOut_27 rfl (lv_at hl 1 rfl) ?_
    refine va_get (D := D) (ci := 2) (v := .ref td) (C := RX3) (T := TX3) (N := 3) hx hb hts hinX3 hown hK.1 hP 0 rfl rfl 2 (by decide) hf17 (fun _ h9 => h9) rfl dX3_standsOut_28 ?_
    refine lv_iload hx hb dX3_standsOut_31 (lv_at hl 5 rfl) ?_
    refine lv_iconst (v := 1) hx hb dX3_standsOut_33 (by decide) ?_
    refine lv_isub hx hb dX3_standsOut_34 ?_
    refine w_ald hx hb hK hP 2 0 rfl rfl (k - 1) (pk_sub (b := 1) (by omega)) (by omega) (by omega) dX3_standsOut_35 ?_
    refine lv_imul hx hb dX3_standsOut_36 ?_
    refine lv_icmp_le (tgt := 44) hx hb dX3_standsOut_37 (by decide) (fun c37 => ?_) (fun c37 => ?_)
    · rw [if_pos c37] at hF
      refine lv_iconst (v := 0) hx hb dX3_standsOut_44 (by decide) ?_
      subst hF
      subst hQ
      exact W.zret (v := 0) (ty := .boolean) hx hb hr rfl (fun u9 ht hW => ⟨⟨_, (), rfl, rfl, by rw [← ht] at hP; exact hP⟩, hS.F ht⟩) hS.2.2 dX3_standsOut_45
    · rw [if_neg c37] at hF
      refine lv_iconst (v := 1) hx hb dX3_standsOut_40 (by decide) ?_
      refine lv_goto (tgt := 45) hx hb dX3_standsOut_41 (by decide) ?_
      subst hF
      subst hQ
      exact W.zret (v := 1) (ty := .boolean) hx hb hr rfl (fun u9 ht hW => ⟨⟨_, (), rfl, rfl, by rw [← ht] at hP; exact hP⟩, hS.F ht⟩) hS.2.2 dX3_standsOut_45
def F_X3_standingOut_6 (rw : Nat → Int32) (wn : Nat) (w : Nat) (g : Nat) (k : Nat) (sc : Int32) : Nat → Nat → Int32 → (Nat → Int32) → (Int32 × (Nat → Int32))
  | 0, k6, x5, od => (x5, od)
  | r6 + 1, k6, x5, od => (if ((fX3_standsOut rw wn od k6 w g k sc).1) = 0 then F_X3_standingOut_6 rw wn w g k sc r6 (k6 + 1) x5 ((fX3_standsOut rw wn od k6 w g k sc).2) else F_X3_standingOut_6 rw wn w g k sc r6 (k6 + 1) (x5 + 1) ((fX3_standsOut rw wn od k6 w g k sc).2))
def fX3_standingOut (rw : Nat → Int32) (wn : Nat) (od : Nat → Int32) (w : Nat) (g : Nat) (k : Nat) (sc : Int32) : Int32 × (Nat → Int32) := F_X3_standingOut_6 rw wn w g k sc (wn - 0) 0 0 od
abbrev rmX3_standingOut : Room := { frames := 3, cells := 0, slots := 0, locals := 74 }
set_option maxHeartbeats 4000000 in
set_option maxRecDepth 100000 in
theorem c_X3_standingOut (l : Launch) (D : va_G) (cI : ClassId) (sz : Nat) (h : Nat) (tn : Nat) (td : Nat) (rw : Nat → Int32) (wn : Nat) (od : Nat → Int32) (w : Nat) (g : Nat) (k : Nat) (sc : Int32) (hwn : wn ≤ 64) (hw : w ≤ 8) (hg : g ≤ 3) (hk1 : 1 ≤ k) (hk : k ≤ 8) : Met l yX3_standingOut wsX3_standingOut rmX3_standingOut (va_Pc [.ref h, .int (nI w), .int (nI g), .int (nI k), .int sc] (wrP D [(cI, .int)] [(h, .inr (2, [.ref tn, .int (nI wn), .ref td])), (tn, .inl (cI, 64, .inl rw)), (td, .inl (cI, 16, .inl od))] sz)) (va_Qi (fun r9 (_ : Unit) => r9 = (fX3_standingOut rw wn od w g k sc).1) (fun _ u9 => va_P D vwCl [(h, .inr (2, [.ref tn, .int (nI wn), .ref td])), (tn, .inl (cI, 64, .inl rw)), (td, .inl (cI, 16, .inl ((fX3_standingOut rw wn od w g k sc).2)))] u9.heap) (va_A [(h, .inr (2, [.ref tn, .int (nI wn), .ref td])), (tn, .inl (cI, 64, .inl rw)), (td, .inl (cI, 16, .inl od))] sz)) 0 0 (va_A [(h, .inr (2, [.ref tn, .int (nI wn), .ref td])), (tn, .inl (cI, 64, .inl rw)), (td, .inl (cI, 16, .inl od))] sz) := by
  generalize hF : fX3_standingOut rw wn od w g k sc = T
  refine Met.ofW (cc := cX3_standingOut) (maxL := 7) (ret := (some .int)) (by decide) rfl ?_
  intro p e s m args below meth c s₁ B hml hv
  obtain ⟨rfl, hsz, hP, hK, hD0⟩ := hv
  have hx := B.exec
  have hb := B.bytes
  have hr := B.returns
  have hts := atoms_spec (ws := wsX3_standingOut) B.pre
  have hown : s.vm.findClass RX3 = some m.cls := findClass_of_methodNamed B.named
  have hlocks := B.notSynchronized
  have hinX3 : ∀ w ∈ u_ws RX3 TX3 3, w ∈ wsX3_standingOut := by decide +kernel
  have hf13 := hts (.fieldLink RX3 13 "PulseSigns$Row" "length" "I") (by decide +kernel)
  subst hsz
  have hD := hD0.self (sz := s.heap.size)
  generalize hAe : va_A [(h, .inr (2, [.ref tn, .int (nI wn), .ref td])), (tn, .inl (cI, 64, .inl rw)), (td, .inl (cI, 16, .inl od))] s.heap.size = A at hD ⊢
  have hA : ∀ q : Nat, s.heap.size ≤ q → A q := fun q h => by rw [← hAe]; exact Or.inr h
  have hS : va_S A s.heap s.heap [] := va_S.rf
  have hP : va_P D vwCl [(h, .inr (2, [.ref tn, .int (nI wn), .ref td])), (tn, .inl (cI, 64, .inl rw)), (td, .inl (cI, 16, .inl od))] s.heap := hP
  have hl := lv_entry ([.ref h, .int (nI w), .int (nI g), .int (nI k), .int sc]) (n := 7) (Nat.le_of_ble_eq_true rfl)
  rw [lg_entry_eq]
  generalize (lg_sl ([.ref h, .int (nI w), .int (nI g), .int (nI k), .int sc]) ++ List.replicate (7 - (lg_sl ([.ref h, .int (nI w), .int (nI g), .int (nI k), .int sc])).length) Slot.unset).toArray = ls at hl ⊢
  refine w_Q (fun Q hQ => ?_)
  have hl : lv_has ls 7 [(0, .ref h), (1, .int (nI w)), (2, .int (nI g)), (3, .int (nI k)), (4, .int sc)] := hl
  rw [fX3_standingOut] at hF
  refine lv_iconst (v := 0) hx hb dX3_standingOut_0 (by decide) ?_
  refine lv_istore (lv' := [(5, .int 0), (0, .ref h), (1, .int (nI w)), (2, .int (nI g)), (3, .int (nI k)), (4, .int sc)]) hx hb dX3_standingOut_1 hl (by decide) rfl (fun ls hl => ?_)
  refine lv_iconst (v := 0) hx hb dX3_standingOut_3 (by decide) ?_
  refine lv_istore (lv' := [(6, .int 0), (5, .int 0), (0, .ref h), (1, .int (nI w)), (2, .int (nI g)), (3, .int (nI k)), (4, .int sc)]) hx hb dX3_standingOut_4 hl (by decide) rfl (fun ls hl => ?_)
  have lp6 : ∀ (r6 k6 : Nat) (x5 : Int32) (od : Nat → Int32) (H : Heap) (locs : List Loc) (ls : Array Slot), r6 = wn - k6 → k6 ≤ wn + 1 → va_P D vwCl [(h, .inr (2, [.ref tn, .int (nI wn), .ref td])), (tn, .inl (cI, 64, .inl rw)), (td, .inl (cI, 16, .inl od))] H → va_D A [(h, .inr (2, [.ref tn, .int (nI wn), .ref td])), (tn, .inl (cI, 64, .inl rw)), (td, .inl (cI, 16, .inl od))] → va_S A s.heap H locs → lv_has ls 7 [(0, .ref h), (1, .int (nI w)), (2, .int (nI g)), (3, .int (nI k)), (4, .int sc), (5, .int x5), (6, .int (nI k6))] → F_X3_standingOut_6 rw wn w g k sc r6 k6 x5 od = T → W p l e (headSpec wsX3_standingOut rmX3_standingOut).room s m ([.ref h, .int (nI w), .int (nI g), .int (nI k), .int sc] : List Value).toArray below meth c H locs 0 0 Q (F0 m 6 ls []) := by
    intro r6
    induction r6 with
    | zero =>
      intro k6 x5 od H locs ls hi6_0 hi6_1 hP hD hS hl hF
      rw [F_X3_standingOut_6] at hF
      refine lv_iload hx hb dX3_standingOut_6 (lv_at hl 6 rfl) ?_
      refine lv_aload_n hx hb dX3_standingOut_8 rfl (lv_at hl 0 rfl) ?_
      refine va_get (D := D) (ci := 2) (v := .int (nI wn)) (C := RX3) (T := TX3) (N := 3) hx hb hts hinX3 hown hK.1 hP 0 rfl rfl 1 (by decide) hf13 (fun _ h9 => h9) rfl dX3_standingOut_9 ?_
      refine lv_icmp_ge (tgt := 38) hx hb dX3_standingOut_12 (by decide) (fun c12 => ?_) (fun c12 => ?_)
      · skip
        refine lv_iload hx hb dX3_standingOut_38 (lv_at hl 5 rfl) ?_
        subst hF
        subst hQ
        exact W.iret (v := x5) hx hb hr (fun u9 ht hW => ⟨⟨_, (), rfl, rfl, by rw [← ht] at hP; exact hP⟩, hS.F ht⟩) hS.2.2 dX3_standingOut_40
      · exact False.elim (c12 (nI_le (a := wn) (b := k6) (by omega) (by omega)))
    | succ r6 ih6 =>
      intro k6 x5 od H locs ls hi6_0 hi6_1 hP hD hS hl hF
      rw [F_X3_standingOut_6] at hF
      refine lv_iload hx hb dX3_standingOut_6 (lv_at hl 6 rfl) ?_
      refine lv_aload_n hx hb dX3_standingOut_8 rfl (lv_at hl 0 rfl) ?_
      refine va_get (D := D) (ci := 2) (v := .int (nI wn)) (C := RX3) (T := TX3) (N := 3) hx hb hts hinX3 hown hK.1 hP 0 rfl rfl 1 (by decide) hf13 (fun _ h9 => h9) rfl dX3_standingOut_9 ?_
      refine lv_icmp_ge (tgt := 38) hx hb dX3_standingOut_12 (by decide) (fun c12 => ?_) (fun c12 => ?_)
      · exact False.elim (nI_ge (a := k6) (b := wn) (by omega) (by omega) c12)
      · skip
        refine lv_aload_n hx hb dX3_standingOut_15 rfl (lv_at hl 0 rfl) ?_
        refine lv_iload hx hb dX3_standingOut_16 (lv_at hl 6 rfl) ?_
        refine lv_iload_n hx hb dX3_standingOut_18 rfl (lv_at hl 1 rfl) ?_
        refine lv_iload_n hx hb dX3_standingOut_19 rfl (lv_at hl 2 rfl) ?_
        refine lv_iload_n hx hb dX3_standingOut_20 rfl (lv_at hl 3 rfl) ?_
        refine lv_iload hx hb dX3_standingOut_21 (lv_at hl 4 rfl) ?_
        refine cw_i (va_runV (As := [.int (nI k6), .int (nI w), .int (nI g), .int (nI k), .int sc]) (rest := []) ⟨hx, hb, hml, hown, hts⟩ (c_X3_standsOut l D cI H.size h tn td rw wn od k6 w g k sc (by first | assumption | omega) (by first | assumption | omega) (by first | assumption | omega) (by first | assumption | omega) (by first | assumption | omega) (by first | assumption | omega)) (cwV 5 hts gX3_standingOut_X3_standsOut rfl rfl rfl (by decide +kernel) ⟨(Nat.le_of_ble_eq_true rfl), (Nat.le_of_ble_eq_true rfl)⟩) (wr_preV hP hD hK rfl (q0 := 0) rfl) rfl rfl hl.1 rfl (lv_room (Nat.le_of_ble_eq_true rfl)) dX3_standingOut_23 ⟨Nat.zero_le _, Nat.zero_le _⟩) hP hD hS hA [0, 1, 2] rfl rfl (fun H locs hP hD hS => ?_)
        have hP : va_P D vwCl [(h, .inr (2, [.ref tn, .int (nI wn), .ref td])), (tn, .inl (cI, 64, .inl rw)), (td, .inl (cI, 16, .inl ((fX3_standsOut rw wn od k6 w g k sc).2)))] H := hP
        have hD : va_D A [(h, .inr (2, [.ref tn, .int (nI wn), .ref td])), (tn, .inl (cI, 64, .inl rw)), (td, .inl (cI, 16, .inl ((fX3_standsOut rw wn od k6 w g k sc).2)))] := hD
        refine lv_if_eq (tgt := 32) hx hb dX3_standingOut_26 (by decide) (fun c26 => ?_) (fun c26 => ?_)
        · rw [if_pos c26] at hF
          refine lv_iinc (v := nI (k6 + 1)) (lv' := [(6, .int (nI (k6 + 1))), (0, .ref h), (1, .int (nI w)), (2, .int (nI g)), (3, .int (nI k)), (4, .int sc), (5, .int x5)]) hx hb dX3_standingOut_32 hl (k := 6) rfl (nI_1 _) (by decide) rfl (fun ls hl => ?_)
          refine lv_goto (tgt := 6) hx hb dX3_standingOut_35 (by decide) ?_
          exact ih6 (k6 + 1) x5 ((fX3_standsOut rw wn od k6 w g k sc).2) H locs ls (by omega) (by omega) hP hD hS (lv_sub hl [1, 2, 3, 4, 5, 6, 0] rfl) hF
        · rw [if_neg c26] at hF
          refine lv_iinc (v := x5 + 1) (lv' := [(5, .int (x5 + 1)), (0, .ref h), (1, .int (nI w)), (2, .int (nI g)), (3, .int (nI k)), (4, .int sc), (6, .int (nI k6))]) hx hb dX3_standingOut_29 hl (k := 5) rfl rfl (by decide) rfl (fun ls hl => ?_)
          refine lv_iinc (v := nI (k6 + 1)) (lv' := [(6, .int (nI (k6 + 1))), (5, .int (x5 + 1)), (0, .ref h), (1, .int (nI w)), (2, .int (nI g)), (3, .int (nI k)), (4, .int sc)]) hx hb dX3_standingOut_32 hl (k := 6) rfl (nI_1 _) (by decide) rfl (fun ls hl => ?_)
          refine lv_goto (tgt := 6) hx hb dX3_standingOut_35 (by decide) ?_
          exact ih6 (k6 + 1) (x5 + 1) ((fX3_standsOut rw wn od k6 w g k sc).2) H locs ls (by omega) (by omega) hP hD hS (lv_sub hl [2, 3, 4, 5, 6, 1, 0] rfl) hF
  exact lp6 (wn - 0) 0 0 od s.heap _ ls rfl (by omega) hP hD hS (lv_sub hl [2, 3, 4, 5, 6, 1, 0] rfl) hF
end
