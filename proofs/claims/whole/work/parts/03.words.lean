/-! the tables' words that stay under every call: one list for all methods -/
def gtbl : List Cond := lw_tbl.filter goodWord
theorem gt_good {w : Cond} (h : w ∈ gtbl) : goodWord w = true := (List.mem_filter.mp h).2
theorem gt_in {w : Cond} (i : Nat) (h : lw_tbl[i]? = some w) (g : goodWord w = true) : w ∈ gtbl := List.mem_filter.mpr ⟨List.mem_of_getElem? h, g⟩
theorem gt_tbl {w : Cond} (h : w ∈ gtbl) : w ∈ lw_tbl := (List.mem_filter.mp h).1
theorem gt_sub {ws : List Cond} (h : ∀ w ∈ ws, w ∈ gtbl) : GoodIn gtbl ws := fun w hw => ⟨h w hw, good_of_word (gt_good (h w hw))⟩
abbrev wd (y : MethodName) (cc : ByteArray) (n : Nat) (ret : Option FieldType) : List Cond := Cond.code y cc n ret :: gtbl
def LkB (y : MethodName) (cc : ByteArray) (n : Nat) (ret : Option FieldType) (np : Nat) : Prop :=
  Cond.code y cc n ret ∈ gtbl ∧ Cond.initialized y.cls ∈ gtbl ∧ y.cls ≠ "java/lang/invoke/MethodHandle" ∧ y.cls ≠ "java/lang/invoke/VarHandle" ∧ (parseMethodDescriptor y.desc).map (fun d => d.parameters.length) = some np
def LkV (own : String) (idx : Nat) (y : MethodName) (cc : ByteArray) (n : Nat) (ret : Option FieldType) (np : Nat) : Prop :=
  LkB y cc n ret np ∧ Cond.methodLink own idx y ∈ gtbl ∧ Cond.instanceMethod y ∈ gtbl ∧ Cond.selects y.cls y y ∈ gtbl
def LkS (own : String) (idx : Nat) (y : MethodName) (cc : ByteArray) (n : Nat) (ret : Option FieldType) (np : Nat) : Prop :=
  LkB y cc n ret np ∧ Cond.methodLink own idx y ∈ gtbl ∧ Cond.static y ∈ gtbl
def LkI (own : String) (idx : Nat) (y : MethodName) (cc : ByteArray) (n : Nat) (np : Nat) : Prop :=
  LkB y cc n none np ∧ Cond.methodLink own idx y ∈ gtbl ∧ Cond.instanceMethod y ∈ gtbl ∧ y.name = "<init>"
def LkVN (own : String) (idx : Nat) (y : MethodName) (host : String) (cc : ByteArray) (n : Nat) (ret : Option FieldType) (np : Nat) : Prop :=
  LkB y cc n ret np ∧ Cond.methodLinkNest own idx y host ∈ lw_tbl ∧ Cond.instanceMethod y ∈ gtbl ∧ Cond.selects y.cls y y ∈ gtbl
def LkSN (own : String) (idx : Nat) (y : MethodName) (host : String) (cc : ByteArray) (n : Nat) (ret : Option FieldType) (np : Nat) : Prop :=
  LkB y cc n ret np ∧ Cond.methodLinkNest own idx y host ∈ lw_tbl ∧ Cond.static y ∈ gtbl
def LkIN (own : String) (idx : Nat) (y : MethodName) (host : String) (cc : ByteArray) (n : Nat) (np : Nat) : Prop :=
  LkB y cc n none np ∧ Cond.methodLinkNest own idx y host ∈ lw_tbl ∧ Cond.instanceMethod y ∈ gtbl ∧ y.name = "<init>"
theorem wz_L : Cond.initialized RL ∈ gtbl := (gt_in 73 (by decide +kernel) rfl)
theorem wz_X7 : Cond.initialized RX7 ∈ gtbl := (gt_in 74 (by decide +kernel) rfl)
theorem wz_Jxa1e45 : Cond.initialized RJxa1e45 ∈ gtbl := (gt_in 75 (by decide +kernel) rfl)
theorem wz_Jxc12de : Cond.initialized RJxc12de ∈ gtbl := (gt_in 76 (by decide +kernel) rfl)
theorem wz_Jx4a65c : Cond.initialized RJx4a65c ∈ gtbl := (gt_in 77 (by decide +kernel) rfl)
theorem wz_X4 : Cond.initialized RX4 ∈ gtbl := (gt_in 78 (by decide +kernel) rfl)
theorem wz_X6 : Cond.initialized RX6 ∈ gtbl := (gt_in 79 (by decide +kernel) rfl)
theorem wz_X3 : Cond.initialized RX3 ∈ gtbl := (gt_in 80 (by decide +kernel) rfl)
theorem wz_X8 : Cond.initialized RX8 ∈ gtbl := (gt_in 81 (by decide +kernel) rfl)
theorem wz_X5 : Cond.initialized RX5 ∈ gtbl := (gt_in 82 (by decide +kernel) rfl)
theorem wz_J8 : Cond.initialized RJ8 ∈ gtbl := (gt_in 83 (by decide +kernel) rfl)
theorem wz_J9 : Cond.initialized RJ9 ∈ gtbl := (gt_in 84 (by decide +kernel) rfl)
theorem wz_J7 : Cond.initialized RJ7 ∈ gtbl := (gt_in 85 (by decide +kernel) rfl)
theorem wz_J10 : Cond.initialized RJ10 ∈ gtbl := (gt_in 86 (by decide +kernel) rfl)
theorem wz_J15 : Cond.initialized RJ15 ∈ gtbl := (gt_in 87 (by decide +kernel) rfl)
theorem wz_J3 : Cond.initialized RJ3 ∈ gtbl := (gt_in 88 (by decide +kernel) rfl)
theorem wz_X0 : Cond.initialized RX0 ∈ gtbl := (gt_in 89 (by decide +kernel) rfl)
theorem wz_X2 : Cond.initialized RX2 ∈ gtbl := (gt_in 90 (by decide +kernel) rfl)
theorem wz_J6 : Cond.initialized RJ6 ∈ gtbl := (gt_in 91 (by decide +kernel) rfl)
theorem wz_X1 : Cond.initialized RX1 ∈ gtbl := (gt_in 92 (by decide +kernel) rfl)
theorem lb_X7_init : LkB yX7_init cX7_init 2 none 0 := ⟨(gt_in 97 (by decide +kernel) rfl), wz_X7, by decide, by decide, by decide +kernel⟩
theorem lb_Jx4a65c_init_da8c8 : LkB yJx4a65c_init_da8c8 cJx4a65c_init_da8c8 1 none 0 := ⟨(gt_in 109 (by decide +kernel) rfl), wz_Jx4a65c, by decide, by decide, by decide +kernel⟩
theorem lb_Jxc12de_init_da8c8 : LkB yJxc12de_init_da8c8 cJxc12de_init_da8c8 1 none 0 := ⟨(gt_in 112 (by decide +kernel) rfl), wz_Jxc12de, by decide, by decide, by decide +kernel⟩
theorem lb_Jxa1e45_init_da8c8 : LkB yJxa1e45_init_da8c8 cJxa1e45_init_da8c8 1 none 0 := ⟨(gt_in 115 (by decide +kernel) rfl), wz_Jxa1e45, by decide, by decide, by decide +kernel⟩
theorem lb_X4_init : LkB yX4_init cX4_init 1 none 0 := ⟨(gt_in 135 (by decide +kernel) rfl), wz_X4, by decide, by decide, by decide +kernel⟩
theorem lb_X6_init : LkB yX6_init cX6_init 2 none 1 := ⟨(gt_in 171 (by decide +kernel) rfl), wz_X6, by decide, by decide, by decide +kernel⟩
theorem lb_X3_init : LkB yX3_init cX3_init 2 none 1 := ⟨(gt_in 196 (by decide +kernel) rfl), wz_X3, by decide, by decide, by decide +kernel⟩
theorem lb_X7_tick : LkB yX7_tick cX7_tick 2 (some .int) 1 := ⟨(gt_in 267 (by decide +kernel) rfl), wz_X7, by decide, by decide, by decide +kernel⟩
theorem lb_X7_within : LkB yX7_within cX7_within 3 (some .boolean) 3 := ⟨(gt_in 270 (by decide +kernel) rfl), wz_X7, by decide, by decide, by decide +kernel⟩
theorem lb_X7_rule : LkB yX7_rule cX7_rule 6 (some .int) 4 := ⟨(gt_in 275 (by decide +kernel) rfl), wz_X7, by decide, by decide, by decide +kernel⟩
theorem lb_X7_ruleAt : LkB yX7_ruleAt cX7_ruleAt 2 (some (.object "ModeratorsBench$Rule")) 1 := ⟨(gt_in 279 (by decide +kernel) rfl), wz_X7, by decide, by decide, by decide +kernel⟩
theorem lb_X7_ladder : LkB yX7_ladder cX7_ladder 3 (some .int) 2 := ⟨(gt_in 283 (by decide +kernel) rfl), wz_X7, by decide, by decide, by decide +kernel⟩
theorem lb_X7_due : LkB yX7_due cX7_due 4 (some .int) 2 := ⟨(gt_in 287 (by decide +kernel) rfl), wz_X7, by decide, by decide, by decide +kernel⟩
theorem lb_X7_limit : LkB yX7_limit cX7_limit 3 (some .int) 1 := ⟨(gt_in 291 (by decide +kernel) rfl), wz_X7, by decide, by decide, by decide +kernel⟩
theorem lb_X7_post : LkB yX7_post cX7_post 5 (some .int) 3 := ⟨(gt_in 295 (by decide +kernel) rfl), wz_X7, by decide, by decide, by decide +kernel⟩
theorem lb_Jx4a65c_size_8abf5 : LkB yJx4a65c_size_8abf5 cJx4a65c_size_8abf5 1 (some .int) 0 := ⟨(gt_in 299 (by decide +kernel) rfl), wz_Jx4a65c, by decide, by decide, by decide +kernel⟩
theorem lb_X5_init : LkB yX5_init cX5_init 6 none 5 := ⟨(gt_in 304 (by decide +kernel) rfl), wz_X5, by decide, by decide, by decide +kernel⟩
theorem lb_Jx4a65c_add_9ea2d : LkB yJx4a65c_add_9ea2d cJx4a65c_add_9ea2d 2 (some .boolean) 1 := ⟨(gt_in 337 (by decide +kernel) rfl), wz_Jx4a65c, by decide, by decide, by decide +kernel⟩
theorem lb_Jx4a65c_add_72be8 : LkB yJx4a65c_add_72be8 cJx4a65c_add_72be8 4 none 3 := ⟨(gt_in 341 (by decide +kernel) rfl), wz_Jx4a65c, by decide, by decide, by decide +kernel⟩
theorem lb_Jx4a65c_grow_d5877 : LkB yJx4a65c_grow_d5877 cJx4a65c_grow_d5877 1 (some (.array (.object "java/lang/Object"))) 0 := ⟨(gt_in 345 (by decide +kernel) rfl), wz_Jx4a65c, by decide, by decide, by decide +kernel⟩
theorem lb_Jx4a65c_grow_92f84 : LkB yJx4a65c_grow_92f84 cJx4a65c_grow_92f84 4 (some (.array (.object "java/lang/Object"))) 1 := ⟨(gt_in 349 (by decide +kernel) rfl), wz_Jx4a65c, by decide, by decide, by decide +kernel⟩
theorem lb_J8_newLength_cabcc : LkB yJ8_newLength_cabcc cJ8_newLength_cabcc 4 (some .int) 3 := ⟨(gt_in 352 (by decide +kernel) rfl), wz_J8, by decide, by decide, by decide +kernel⟩
theorem lb_J9_max_7cf53 : LkB yJ9_max_7cf53 cJ9_max_7cf53 2 (some .int) 2 := ⟨(gt_in 355 (by decide +kernel) rfl), wz_J9, by decide, by decide, by decide +kernel⟩
theorem lb_J8_hugeLength_7cf53 : LkB yJ8_hugeLength_7cf53 cJ8_hugeLength_7cf53 3 (some .int) 2 := ⟨(gt_in 359 (by decide +kernel) rfl), wz_J8, by decide, by decide, by decide +kernel⟩
theorem lb_J7_copyOf_1904c : LkB yJ7_copyOf_1904c cJ7_copyOf_1904c 2 (some (.array (.object "java/lang/Object"))) 2 := ⟨(gt_in 362 (by decide +kernel) rfl), wz_J7, by decide, by decide, by decide +kernel⟩
theorem lb_J7_copyOf_6403c : LkB yJ7_copyOf_6403c cJ7_copyOf_6403c 4 (some (.array (.object "java/lang/Object"))) 3 := ⟨(gt_in 379 (by decide +kernel) rfl), wz_J7, by decide, by decide, by decide +kernel⟩
theorem lb_J9_min_7cf53 : LkB yJ9_min_7cf53 cJ9_min_7cf53 2 (some .int) 2 := ⟨(gt_in 385 (by decide +kernel) rfl), wz_J9, by decide, by decide, by decide +kernel⟩
theorem lb_X7_complain : LkB yX7_complain cX7_complain 8 (some .int) 2 := ⟨(gt_in 394 (by decide +kernel) rfl), wz_X7, by decide, by decide, by decide +kernel⟩
theorem lb_X7_postAt : LkB yX7_postAt cX7_postAt 2 (some (.object "ModeratorsBench$Post")) 1 := ⟨(gt_in 398 (by decide +kernel) rfl), wz_X7, by decide, by decide, by decide +kernel⟩
theorem lb_Jx4a65c_get_915e3 : LkB yJx4a65c_get_915e3 cJx4a65c_get_915e3 2 (some (.object "java/lang/Object")) 1 := ⟨(gt_in 402 (by decide +kernel) rfl), wz_Jx4a65c, by decide, by decide, by decide +kernel⟩
theorem lb_J15_checkIndex_7cf53 : LkB yJ15_checkIndex_7cf53 cJ15_checkIndex_7cf53 2 (some .int) 2 := ⟨(gt_in 405 (by decide +kernel) rfl), wz_J15, by decide, by decide, by decide +kernel⟩
theorem lb_J3_checkIndex_8e157 : LkB yJ3_checkIndex_8e157 cJ3_checkIndex_8e157 3 (some .int) 3 := ⟨(gt_in 408 (by decide +kernel) rfl), wz_J3, by decide, by decide, by decide +kernel⟩
theorem lb_Jx4a65c_elementData_915e3 : LkB yJx4a65c_elementData_915e3 cJx4a65c_elementData_915e3 2 (some (.object "java/lang/Object")) 1 := ⟨(gt_in 412 (by decide +kernel) rfl), wz_Jx4a65c, by decide, by decide, by decide +kernel⟩
theorem lb_X5_caseUnder : LkB yX5_caseUnder cX5_caseUnder 3 (some (.object "ModeratorsBench$Case")) 1 := ⟨(gt_in 416 (by decide +kernel) rfl), wz_X5, by decide, by decide, by decide +kernel⟩
theorem lb_X0_init : LkB yX0_init cX0_init 5 none 4 := ⟨(gt_in 421 (by decide +kernel) rfl), wz_X0, by decide, by decide, by decide +kernel⟩
theorem lb_X2_init : LkB yX2_init cX2_init 2 none 1 := ⟨(gt_in 427 (by decide +kernel) rfl), wz_X2, by decide, by decide, by decide +kernel⟩
theorem lb_X5_addCase : LkB yX5_addCase cX5_addCase 2 none 1 := ⟨(gt_in 509 (by decide +kernel) rfl), wz_X5, by decide, by decide, by decide +kernel⟩
theorem lb_X7_judge : LkB yX7_judge cX7_judge 6 (some .int) 4 := ⟨(gt_in 513 (by decide +kernel) rfl), wz_X7, by decide, by decide, by decide +kernel⟩
theorem lb_X7_judgeAt : LkB yX7_judgeAt cX7_judgeAt 2 (some (.object "ModeratorsBench$Judge")) 1 := ⟨(gt_in 517 (by decide +kernel) rfl), wz_X7, by decide, by decide, by decide +kernel⟩
theorem lb_X7_kin : LkB yX7_kin cX7_kin 6 (some .int) 3 := ⟨(gt_in 521 (by decide +kernel) rfl), wz_X7, by decide, by decide, by decide +kernel⟩
theorem lb_X3_isKinOf : LkB yX3_isKinOf cX3_isKinOf 2 (some .boolean) 1 := ⟨(gt_in 525 (by decide +kernel) rfl), wz_X3, by decide, by decide, by decide +kernel⟩
theorem lb_X7_asNumber : LkB yX7_asNumber cX7_asNumber 1 (some .int) 1 := ⟨(gt_in 528 (by decide +kernel) rfl), wz_X7, by decide, by decide, by decide +kernel⟩
theorem lb_X3_setKin : LkB yX3_setKin cX3_setKin 3 none 2 := ⟨(gt_in 532 (by decide +kernel) rfl), wz_X3, by decide, by decide, by decide +kernel⟩
theorem lb_X7_rest : LkB yX7_rest cX7_rest 5 (some .int) 2 := ⟨(gt_in 537 (by decide +kernel) rfl), wz_X7, by decide, by decide, by decide +kernel⟩
theorem lb_X7_layToRest : LkB yX7_layToRest cX7_layToRest 3 none 1 := ⟨(gt_in 541 (by decide +kernel) rfl), wz_X7, by decide, by decide, by decide +kernel⟩
theorem lb_X7_takeBack : LkB yX7_takeBack cX7_takeBack 3 none 1 := ⟨(gt_in 546 (by decide +kernel) rfl), wz_X7, by decide, by decide, by decide +kernel⟩
theorem lb_Jx4a65c_remove_915e3 : LkB yJx4a65c_remove_915e3 cJx4a65c_remove_915e3 4 (some (.object "java/lang/Object")) 1 := ⟨(gt_in 550 (by decide +kernel) rfl), wz_Jx4a65c, by decide, by decide, by decide +kernel⟩
theorem lb_Jx4a65c_fastRemove_b59b0 : LkB yJx4a65c_fastRemove_b59b0 cJx4a65c_fastRemove_b59b0 4 none 2 := ⟨(gt_in 554 (by decide +kernel) rfl), wz_Jx4a65c, by decide, by decide, by decide +kernel⟩
theorem lb_X7_next : LkB yX7_next cX7_next 4 (some .int) 1 := ⟨(gt_in 559 (by decide +kernel) rfl), wz_X7, by decide, by decide, by decide +kernel⟩
theorem lb_X7_nextFor : LkB yX7_nextFor cX7_nextFor 7 (some (.object "ModeratorsBench$Case")) 1 := ⟨(gt_in 563 (by decide +kernel) rfl), wz_X7, by decide, by decide, by decide +kernel⟩
theorem lb_X7_mayHave : LkB yX7_mayHave cX7_mayHave 2 (some .boolean) 2 := ⟨(gt_in 566 (by decide +kernel) rfl), wz_X7, by decide, by decide, by decide +kernel⟩
theorem lb_X0_isUndecided : LkB yX0_isUndecided cX0_isUndecided 1 (some .boolean) 0 := ⟨(gt_in 570 (by decide +kernel) rfl), wz_X0, by decide, by decide, by decide +kernel⟩
theorem lb_X0_wantsJudges : LkB yX0_wantsJudges cX0_wantsJudges 1 (some .boolean) 0 := ⟨(gt_in 574 (by decide +kernel) rfl), wz_X0, by decide, by decide, by decide +kernel⟩
theorem lb_X0_hearing : LkB yX0_hearing cX0_hearing 1 (some (.object "ModeratorsBench$Hearing")) 0 := ⟨(gt_in 578 (by decide +kernel) rfl), wz_X0, by decide, by decide, by decide +kernel⟩
theorem lb_X2_votes : LkB yX2_votes cX2_votes 1 (some .int) 0 := ⟨(gt_in 582 (by decide +kernel) rfl), wz_X2, by decide, by decide, by decide +kernel⟩
theorem lb_J6_bitCount_0f7a4 : LkB yJ6_bitCount_0f7a4 cJ6_bitCount_0f7a4 1 (some .int) 1 := ⟨(gt_in 585 (by decide +kernel) rfl), wz_J6, by decide, by decide, by decide +kernel⟩
theorem lb_X0_giftsOut : LkB yX0_giftsOut cX0_giftsOut 1 (some .int) 0 := ⟨(gt_in 592 (by decide +kernel) rfl), wz_X0, by decide, by decide, by decide +kernel⟩
theorem lb_X3_isFree : LkB yX3_isFree cX3_isFree 1 (some .boolean) 0 := ⟨(gt_in 597 (by decide +kernel) rfl), wz_X3, by decide, by decide, by decide +kernel⟩
theorem lb_X3_isSkilledIn : LkB yX3_isSkilledIn cX3_isSkilledIn 2 (some .boolean) 1 := ⟨(gt_in 601 (by decide +kernel) rfl), wz_X3, by decide, by decide, by decide +kernel⟩
theorem lb_X0_isHeldBy : LkB yX0_isHeldBy cX0_isHeldBy 2 (some .boolean) 1 := ⟨(gt_in 605 (by decide +kernel) rfl), wz_X0, by decide, by decide, by decide +kernel⟩
theorem lb_X0_hasVoteOf : LkB yX0_hasVoteOf cX0_hasVoteOf 2 (some .boolean) 1 := ⟨(gt_in 609 (by decide +kernel) rfl), wz_X0, by decide, by decide, by decide +kernel⟩
theorem lb_X2_hasVoter : LkB yX2_hasVoter cX2_hasVoter 2 (some .boolean) 1 := ⟨(gt_in 613 (by decide +kernel) rfl), wz_X2, by decide, by decide, by decide +kernel⟩
theorem lb_X7_give : LkB yX7_give cX7_give 4 (some .int) 1 := ⟨(gt_in 617 (by decide +kernel) rfl), wz_X7, by decide, by decide, by decide +kernel⟩
theorem lb_X1_init : LkB yX1_init cX1_init 3 none 2 := ⟨(gt_in 621 (by decide +kernel) rfl), wz_X1, by decide, by decide, by decide +kernel⟩
theorem lb_X7_undo : LkB yX7_undo cX7_undo 3 (some .int) 0 := ⟨(gt_in 635 (by decide +kernel) rfl), wz_X7, by decide, by decide, by decide +kernel⟩
theorem lb_X7_vote : LkB yX7_vote cX7_vote 7 (some .int) 3 := ⟨(gt_in 639 (by decide +kernel) rfl), wz_X7, by decide, by decide, by decide +kernel⟩
theorem lb_X7_caseAt : LkB yX7_caseAt cX7_caseAt 2 (some (.object "ModeratorsBench$Case")) 1 := ⟨(gt_in 643 (by decide +kernel) rfl), wz_X7, by decide, by decide, by decide +kernel⟩
theorem lb_X7_giftOf : LkB yX7_giftOf cX7_giftOf 5 (some .int) 2 := ⟨(gt_in 647 (by decide +kernel) rfl), wz_X7, by decide, by decide, by decide +kernel⟩
theorem lb_X2_cast : LkB yX2_cast cX2_cast 3 none 2 := ⟨(gt_in 652 (by decide +kernel) rfl), wz_X2, by decide, by decide, by decide +kernel⟩
theorem lb_X7_settle : LkB yX7_settle cX7_settle 3 none 1 := ⟨(gt_in 656 (by decide +kernel) rfl), wz_X7, by decide, by decide, by decide +kernel⟩
theorem lb_X2_isAgreed : LkB yX2_isAgreed cX2_isAgreed 2 (some .boolean) 0 := ⟨(gt_in 661 (by decide +kernel) rfl), wz_X2, by decide, by decide, by decide +kernel⟩
theorem lb_X2_mayAskMore : LkB yX2_mayAskMore cX2_mayAskMore 1 (some .boolean) 0 := ⟨(gt_in 665 (by decide +kernel) rfl), wz_X2, by decide, by decide, by decide +kernel⟩
theorem lb_X2_askMore : LkB yX2_askMore cX2_askMore 1 none 0 := ⟨(gt_in 669 (by decide +kernel) rfl), wz_X2, by decide, by decide, by decide +kernel⟩
theorem lb_X0_close : LkB yX0_close cX0_close 2 none 0 := ⟨(gt_in 673 (by decide +kernel) rfl), wz_X0, by decide, by decide, by decide +kernel⟩
theorem lb_X2_findsGuilty : LkB yX2_findsGuilty cX2_findsGuilty 1 (some .boolean) 0 := ⟨(gt_in 677 (by decide +kernel) rfl), wz_X2, by decide, by decide, by decide +kernel⟩
theorem lb_X7_restDoubtedJudges : LkB yX7_restDoubtedJudges cX7_restDoubtedJudges 6 none 0 := ⟨(gt_in 681 (by decide +kernel) rfl), wz_X7, by decide, by decide, by decide +kernel⟩
theorem lb_X7_askedOf : LkB yX7_askedOf cX7_askedOf 4 (some .int) 1 := ⟨(gt_in 685 (by decide +kernel) rfl), wz_X7, by decide, by decide, by decide +kernel⟩
theorem lb_X0_standOf : LkB yX0_standOf cX0_standOf 3 (some .int) 1 := ⟨(gt_in 689 (by decide +kernel) rfl), wz_X0, by decide, by decide, by decide +kernel⟩
theorem lb_X2_standAgainst : LkB yX2_standAgainst cX2_standAgainst 5 (some .int) 2 := ⟨(gt_in 693 (by decide +kernel) rfl), wz_X2, by decide, by decide, by decide +kernel⟩
theorem lb_X7_stoodAlone : LkB yX7_stoodAlone cX7_stoodAlone 4 (some .int) 1 := ⟨(gt_in 699 (by decide +kernel) rfl), wz_X7, by decide, by decide, by decide +kernel⟩
theorem lb_X7_may : LkB yX7_may cX7_may 5 (some .int) 2 := ⟨(gt_in 703 (by decide +kernel) rfl), wz_X7, by decide, by decide, by decide +kernel⟩
theorem lb_X7_told : LkB yX7_told cX7_told 4 (some .int) 2 := ⟨(gt_in 707 (by decide +kernel) rfl), wz_X7, by decide, by decide, by decide +kernel⟩
theorem lb_X7_about : LkB yX7_about cX7_about 4 (some .int) 2 := ⟨(gt_in 711 (by decide +kernel) rfl), wz_X7, by decide, by decide, by decide +kernel⟩
theorem lb_X7_lateBy : LkB yX7_lateBy cX7_lateBy 2 (some .int) 1 := ⟨(gt_in 716 (by decide +kernel) rfl), wz_X7, by decide, by decide, by decide +kernel⟩
theorem lb_X0_timesJudged : LkB yX0_timesJudged cX0_timesJudged 1 (some .int) 0 := ⟨(gt_in 721 (by decide +kernel) rfl), wz_X0, by decide, by decide, by decide +kernel⟩
theorem lb_X7_judged : LkB yX7_judged cX7_judged 5 (some .int) 2 := ⟨(gt_in 726 (by decide +kernel) rfl), wz_X7, by decide, by decide, by decide +kernel⟩
theorem lb_X0_latestJudgement : LkB yX0_latestJudgement cX0_latestJudgement 1 (some (.object "ModeratorsBench$Hearing")) 0 := ⟨(gt_in 730 (by decide +kernel) rfl), wz_X0, by decide, by decide, by decide +kernel⟩
theorem lb_X7_appeal : LkB yX7_appeal cX7_appeal 3 (some .int) 1 := ⟨(gt_in 734 (by decide +kernel) rfl), wz_X7, by decide, by decide, by decide +kernel⟩
theorem lb_X0_hearAgain : LkB yX0_hearAgain cX0_hearAgain 2 none 1 := ⟨(gt_in 738 (by decide +kernel) rfl), wz_X0, by decide, by decide, by decide +kernel⟩
theorem lb_X7_known : LkB yX7_known cX7_known 5 (some .int) 2 := ⟨(gt_in 743 (by decide +kernel) rfl), wz_X7, by decide, by decide, by decide +kernel⟩
theorem lb_X7_late : LkB yX7_late cX7_late 5 (some .int) 0 := ⟨(gt_in 747 (by decide +kernel) rfl), wz_X7, by decide, by decide, by decide +kernel⟩
theorem lb_X7_like : LkB yX7_like cX7_like 4 (some .int) 2 := ⟨(gt_in 751 (by decide +kernel) rfl), wz_X7, by decide, by decide, by decide +kernel⟩
theorem lb_X7_alike : LkB yX7_alike cX7_alike 7 (some .int) 3 := ⟨(gt_in 755 (by decide +kernel) rfl), wz_X7, by decide, by decide, by decide +kernel⟩
theorem lb_X0_isAlike : LkB yX0_isAlike cX0_isAlike 3 (some .boolean) 2 := ⟨(gt_in 759 (by decide +kernel) rfl), wz_X0, by decide, by decide, by decide +kernel⟩
theorem lb_X0_guiltStands : LkB yX0_guiltStands cX0_guiltStands 1 (some .boolean) 0 := ⟨(gt_in 764 (by decide +kernel) rfl), wz_X0, by decide, by decide, by decide +kernel⟩
theorem lb_X7_unlike : LkB yX7_unlike cX7_unlike 6 (some .int) 2 := ⟨(gt_in 768 (by decide +kernel) rfl), wz_X7, by decide, by decide, by decide +kernel⟩
theorem lb_X7_writer : LkB yX7_writer cX7_writer 3 (some .int) 2 := ⟨(gt_in 773 (by decide +kernel) rfl), wz_X7, by decide, by decide, by decide +kernel⟩
theorem lb_X7_climbLadder : LkB yX7_climbLadder cX7_climbLadder 6 none 2 := ⟨(gt_in 777 (by decide +kernel) rfl), wz_X7, by decide, by decide, by decide +kernel⟩
theorem lb_X4_restart : LkB yX4_restart cX4_restart 1 none 0 := ⟨(gt_in 781 (by decide +kernel) rfl), wz_X4, by decide, by decide, by decide +kernel⟩
theorem lb_X0_bringsStrike : LkB yX0_bringsStrike cX0_bringsStrike 1 (some .boolean) 0 := ⟨(gt_in 785 (by decide +kernel) rfl), wz_X0, by decide, by decide, by decide +kernel⟩
theorem lb_X4_climb : LkB yX4_climb cX4_climb 3 none 2 := ⟨(gt_in 790 (by decide +kernel) rfl), wz_X4, by decide, by decide, by decide +kernel⟩
theorem lb_X4_holdingAt : LkB yX4_holdingAt cX4_holdingAt 2 (some .int) 1 := ⟨(gt_in 794 (by decide +kernel) rfl), wz_X4, by decide, by decide, by decide +kernel⟩
theorem lb_X7_timesWarned : LkB yX7_timesWarned cX7_timesWarned 5 (some .int) 1 := ⟨(gt_in 800 (by decide +kernel) rfl), wz_X7, by decide, by decide, by decide +kernel⟩
theorem lb_X7_postsOf : LkB yX7_postsOf cX7_postsOf 6 (some .int) 2 := ⟨(gt_in 804 (by decide +kernel) rfl), wz_X7, by decide, by decide, by decide +kernel⟩
theorem lb_X5_isHidden : LkB yX5_isHidden cX5_isHidden 2 (some .boolean) 0 := ⟨(gt_in 808 (by decide +kernel) rfl), wz_X5, by decide, by decide, by decide +kernel⟩
theorem lb_X7_level : LkB yX7_level cX7_level 3 (some .int) 1 := ⟨(gt_in 813 (by decide +kernel) rfl), wz_X7, by decide, by decide, by decide +kernel⟩
theorem lb_X7_hidden : LkB yX7_hidden cX7_hidden 3 (some .int) 1 := ⟨(gt_in 817 (by decide +kernel) rfl), wz_X7, by decide, by decide, by decide +kernel⟩
theorem lb_X7_count : LkB yX7_count cX7_count 2 (some .int) 1 := ⟨(gt_in 821 (by decide +kernel) rfl), wz_X7, by decide, by decide, by decide +kernel⟩
theorem lb_X7_undecidedCases : LkB yX7_undecidedCases cX7_undecidedCases 3 (some .int) 0 := ⟨(gt_in 825 (by decide +kernel) rfl), wz_X7, by decide, by decide, by decide +kernel⟩
theorem lb_X7_check : LkB yX7_check cX7_check 8 (some .int) 0 := ⟨(gt_in 829 (by decide +kernel) rfl), wz_X7, by decide, by decide, by decide +kernel⟩
theorem lb_X0_staysWithinAsked : LkB yX0_staysWithinAsked cX0_staysWithinAsked 1 (some .boolean) 0 := ⟨(gt_in 833 (by decide +kernel) rfl), wz_X0, by decide, by decide, by decide +kernel⟩
theorem lb_X0_everyJudgeOnce : LkB yX0_everyJudgeOnce cX0_everyJudgeOnce 2 (some .boolean) 0 := ⟨(gt_in 837 (by decide +kernel) rfl), wz_X0, by decide, by decide, by decide +kernel⟩
theorem lb_X8_init : LkB yX8_init cX8_init 2 none 0 := ⟨(gt_in 842 (by decide +kernel) rfl), wz_X8, by decide, by decide, by decide +kernel⟩
theorem lb_X8_tick : LkB yX8_tick cX8_tick 2 (some .int) 1 := ⟨(gt_in 991 (by decide +kernel) rfl), wz_X8, by decide, by decide, by decide +kernel⟩
theorem lb_X8_within : LkB yX8_within cX8_within 3 (some .boolean) 3 := ⟨(gt_in 994 (by decide +kernel) rfl), wz_X8, by decide, by decide, by decide +kernel⟩
theorem lb_X8_rule : LkB yX8_rule cX8_rule 5 (some .int) 4 := ⟨(gt_in 999 (by decide +kernel) rfl), wz_X8, by decide, by decide, by decide +kernel⟩
theorem lb_X8_ladder : LkB yX8_ladder cX8_ladder 3 (some .int) 2 := ⟨(gt_in 1003 (by decide +kernel) rfl), wz_X8, by decide, by decide, by decide +kernel⟩
theorem lb_X8_due : LkB yX8_due cX8_due 4 (some .int) 2 := ⟨(gt_in 1007 (by decide +kernel) rfl), wz_X8, by decide, by decide, by decide +kernel⟩
theorem lb_X8_limit : LkB yX8_limit cX8_limit 3 (some .int) 1 := ⟨(gt_in 1011 (by decide +kernel) rfl), wz_X8, by decide, by decide, by decide +kernel⟩
theorem lb_X8_post : LkB yX8_post cX8_post 4 (some .int) 3 := ⟨(gt_in 1015 (by decide +kernel) rfl), wz_X8, by decide, by decide, by decide +kernel⟩
theorem lb_X8_complain : LkB yX8_complain cX8_complain 4 (some .int) 2 := ⟨(gt_in 1019 (by decide +kernel) rfl), wz_X8, by decide, by decide, by decide +kernel⟩
theorem lb_X8_judge : LkB yX8_judge cX8_judge 5 (some .int) 4 := ⟨(gt_in 1023 (by decide +kernel) rfl), wz_X8, by decide, by decide, by decide +kernel⟩
theorem lb_X8_isJudge : LkB yX8_isJudge cX8_isJudge 1 (some .boolean) 1 := ⟨(gt_in 1026 (by decide +kernel) rfl), wz_X8, by decide, by decide, by decide +kernel⟩
theorem lb_X8_kin : LkB yX8_kin cX8_kin 5 (some .int) 3 := ⟨(gt_in 1030 (by decide +kernel) rfl), wz_X8, by decide, by decide, by decide +kernel⟩
theorem lb_X8_rest : LkB yX8_rest cX8_rest 4 (some .int) 2 := ⟨(gt_in 1035 (by decide +kernel) rfl), wz_X8, by decide, by decide, by decide +kernel⟩
theorem lb_X8_giveBack : LkB yX8_giveBack cX8_giveBack 4 none 1 := ⟨(gt_in 1039 (by decide +kernel) rfl), wz_X8, by decide, by decide, by decide +kernel⟩
theorem lb_X8_next : LkB yX8_next cX8_next 2 (some .int) 1 := ⟨(gt_in 1043 (by decide +kernel) rfl), wz_X8, by decide, by decide, by decide +kernel⟩
theorem lb_X8_nextOf : LkB yX8_nextOf cX8_nextOf 4 (some .int) 1 := ⟨(gt_in 1047 (by decide +kernel) rfl), wz_X8, by decide, by decide, by decide +kernel⟩
theorem lb_X8_mayHave : LkB yX8_mayHave cX8_mayHave 4 (some .boolean) 2 := ⟨(gt_in 1051 (by decide +kernel) rfl), wz_X8, by decide, by decide, by decide +kernel⟩
theorem lb_X8_isAsking : LkB yX8_isAsking cX8_isAsking 2 (some .boolean) 1 := ⟨(gt_in 1055 (by decide +kernel) rfl), wz_X8, by decide, by decide, by decide +kernel⟩
theorem lb_X8_giftsOf : LkB yX8_giftsOf cX8_giftsOf 5 (some .int) 2 := ⟨(gt_in 1059 (by decide +kernel) rfl), wz_X8, by decide, by decide, by decide +kernel⟩
theorem lb_X8_votesOf : LkB yX8_votesOf cX8_votesOf 4 (some .int) 1 := ⟨(gt_in 1063 (by decide +kernel) rfl), wz_X8, by decide, by decide, by decide +kernel⟩
theorem lb_X8_timeOf : LkB yX8_timeOf cX8_timeOf 2 (some .int) 1 := ⟨(gt_in 1067 (by decide +kernel) rfl), wz_X8, by decide, by decide, by decide +kernel⟩
theorem lb_X8_give : LkB yX8_give cX8_give 3 (some .int) 1 := ⟨(gt_in 1071 (by decide +kernel) rfl), wz_X8, by decide, by decide, by decide +kernel⟩
theorem lb_X8_undo : LkB yX8_undo cX8_undo 1 (some .int) 0 := ⟨(gt_in 1075 (by decide +kernel) rfl), wz_X8, by decide, by decide, by decide +kernel⟩
theorem lb_X8_may : LkB yX8_may cX8_may 3 (some .int) 2 := ⟨(gt_in 1079 (by decide +kernel) rfl), wz_X8, by decide, by decide, by decide +kernel⟩
theorem lb_X8_isCase : LkB yX8_isCase cX8_isCase 2 (some .boolean) 1 := ⟨(gt_in 1083 (by decide +kernel) rfl), wz_X8, by decide, by decide, by decide +kernel⟩
theorem lb_X8_vote : LkB yX8_vote cX8_vote 6 (some .int) 3 := ⟨(gt_in 1087 (by decide +kernel) rfl), wz_X8, by decide, by decide, by decide +kernel⟩
theorem lb_X8_settle : LkB yX8_settle cX8_settle 6 none 1 := ⟨(gt_in 1091 (by decide +kernel) rfl), wz_X8, by decide, by decide, by decide +kernel⟩
theorem lb_X8_lookAtJudges : LkB yX8_lookAtJudges cX8_lookAtJudges 3 none 0 := ⟨(gt_in 1095 (by decide +kernel) rfl), wz_X8, by decide, by decide, by decide +kernel⟩
theorem lb_X8_doubt : LkB yX8_doubt cX8_doubt 6 (some .int) 2 := ⟨(gt_in 1099 (by decide +kernel) rfl), wz_X8, by decide, by decide, by decide +kernel⟩
theorem lb_X8_against : LkB yX8_against cX8_against 3 (some .int) 1 := ⟨(gt_in 1103 (by decide +kernel) rfl), wz_X8, by decide, by decide, by decide +kernel⟩
theorem lb_X8_told : LkB yX8_told cX8_told 5 (some .int) 2 := ⟨(gt_in 1107 (by decide +kernel) rfl), wz_X8, by decide, by decide, by decide +kernel⟩
theorem lb_X8_about : LkB yX8_about cX8_about 3 (some .int) 2 := ⟨(gt_in 1111 (by decide +kernel) rfl), wz_X8, by decide, by decide, by decide +kernel⟩
theorem lb_X8_lateBy : LkB yX8_lateBy cX8_lateBy 3 (some .int) 1 := ⟨(gt_in 1115 (by decide +kernel) rfl), wz_X8, by decide, by decide, by decide +kernel⟩
theorem lb_X8_judged : LkB yX8_judged cX8_judged 3 (some .int) 2 := ⟨(gt_in 1119 (by decide +kernel) rfl), wz_X8, by decide, by decide, by decide +kernel⟩
theorem lb_X8_appeal : LkB yX8_appeal cX8_appeal 2 (some .int) 1 := ⟨(gt_in 1123 (by decide +kernel) rfl), wz_X8, by decide, by decide, by decide +kernel⟩
theorem lb_X8_known : LkB yX8_known cX8_known 4 (some .int) 2 := ⟨(gt_in 1127 (by decide +kernel) rfl), wz_X8, by decide, by decide, by decide +kernel⟩
theorem lb_X8_late : LkB yX8_late cX8_late 3 (some .int) 0 := ⟨(gt_in 1131 (by decide +kernel) rfl), wz_X8, by decide, by decide, by decide +kernel⟩
theorem lb_X8_like : LkB yX8_like cX8_like 3 (some .int) 2 := ⟨(gt_in 1135 (by decide +kernel) rfl), wz_X8, by decide, by decide, by decide +kernel⟩
theorem lb_X8_likeOnes : LkB yX8_likeOnes cX8_likeOnes 11 (some .int) 3 := ⟨(gt_in 1139 (by decide +kernel) rfl), wz_X8, by decide, by decide, by decide +kernel⟩
theorem lb_X8_unlike : LkB yX8_unlike cX8_unlike 5 (some .int) 2 := ⟨(gt_in 1143 (by decide +kernel) rfl), wz_X8, by decide, by decide, by decide +kernel⟩
theorem lb_X8_writer : LkB yX8_writer cX8_writer 10 (some .int) 2 := ⟨(gt_in 1147 (by decide +kernel) rfl), wz_X8, by decide, by decide, by decide +kernel⟩
theorem lb_X8_findStrikes : LkB yX8_findStrikes cX8_findStrikes 6 none 1 := ⟨(gt_in 1151 (by decide +kernel) rfl), wz_X8, by decide, by decide, by decide +kernel⟩
theorem lb_X8_stands : LkB yX8_stands cX8_stands 2 (some .boolean) 1 := ⟨(gt_in 1155 (by decide +kernel) rfl), wz_X8, by decide, by decide, by decide +kernel⟩
theorem lb_X8_isHidden : LkB yX8_isHidden cX8_isHidden 4 (some .boolean) 1 := ⟨(gt_in 1159 (by decide +kernel) rfl), wz_X8, by decide, by decide, by decide +kernel⟩
theorem lb_X8_level : LkB yX8_level cX8_level 3 (some .int) 1 := ⟨(gt_in 1163 (by decide +kernel) rfl), wz_X8, by decide, by decide, by decide +kernel⟩
theorem lb_X8_hidden : LkB yX8_hidden cX8_hidden 2 (some .int) 1 := ⟨(gt_in 1167 (by decide +kernel) rfl), wz_X8, by decide, by decide, by decide +kernel⟩
theorem lb_X8_count : LkB yX8_count cX8_count 4 (some .int) 1 := ⟨(gt_in 1171 (by decide +kernel) rfl), wz_X8, by decide, by decide, by decide +kernel⟩
theorem lb_X8_check : LkB yX8_check cX8_check 6 (some .int) 0 := ⟨(gt_in 1175 (by decide +kernel) rfl), wz_X8, by decide, by decide, by decide +kernel⟩
theorem wi_X7 : Cond.instantiable RX7 10 ∈ gtbl := (gt_in 94 (by decide +kernel) rfl)
theorem wi_Jx4a65c : Cond.instantiable RJx4a65c 3 ∈ gtbl := (gt_in 106 (by decide +kernel) rfl)
theorem wi_X4 : Cond.instantiable RX4 8 ∈ gtbl := (gt_in 132 (by decide +kernel) rfl)
theorem wi_X6 : Cond.instantiable RX6 4 ∈ gtbl := (gt_in 168 (by decide +kernel) rfl)
theorem wi_X3 : Cond.instantiable RX3 8 ∈ gtbl := (gt_in 193 (by decide +kernel) rfl)
theorem wi_X5 : Cond.instantiable RX5 7 ∈ gtbl := (gt_in 301 (by decide +kernel) rfl)
theorem wi_X0 : Cond.instantiable RX0 12 ∈ gtbl := (gt_in 418 (by decide +kernel) rfl)
theorem wi_X2 : Cond.instantiable RX2 7 ∈ gtbl := (gt_in 424 (by decide +kernel) rfl)
theorem wi_X1 : Cond.instantiable RX1 2 ∈ gtbl := (gt_in 618 (by decide +kernel) rfl)
theorem wi_X8 : Cond.instantiable RX8 47 ∈ gtbl := (gt_in 839 (by decide +kernel) rfl)
theorem wl_L_7 : Cond.classLink RL 7 RX7 ∈ gtbl := (gt_in 93 (by decide +kernel) rfl)
theorem wl_X7_9 : Cond.classLink RX7 9 RX6 ∈ gtbl := (gt_in 101 (by decide +kernel) rfl)
theorem wl_X7_15 : Cond.classLink RX7 15 RX3 ∈ gtbl := (gt_in 103 (by decide +kernel) rfl)
theorem wl_X7_21 : Cond.classLink RX7 21 RJx4a65c ∈ gtbl := (gt_in 105 (by decide +kernel) rfl)
theorem wl_X7_38 : Cond.classLink RX7 38 RX4 ∈ gtbl := (gt_in 131 (by decide +kernel) rfl)
theorem wl_X7_87 : Cond.classLink RX7 87 RX5 ∈ gtbl := (gt_in 300 (by decide +kernel) rfl)
theorem wl_J7_110 : Cond.classLink RJ7 110 "[Ljava/lang/Object;" ∈ gtbl := (gt_in 380 (by decide +kernel) rfl)
theorem wl_J7_2 : Cond.classLink RJ7 2 "java/lang/Object" ∈ gtbl := (gt_in 382 (by decide +kernel) rfl)
theorem wl_Jx4a65c_7 : Cond.classLink RJx4a65c 7 "java/lang/Object" ∈ gtbl := (gt_in 390 (by decide +kernel) rfl)
theorem wl_X7_105 : Cond.classLink RX7 105 RX0 ∈ gtbl := (gt_in 417 (by decide +kernel) rfl)
theorem wl_X0_49 : Cond.classLink RX0 49 RX2 ∈ gtbl := (gt_in 423 (by decide +kernel) rfl)
theorem wl_X7_156 : Cond.classLink RX7 156 RX1 ∈ gtbl := (gt_in 542 (by decide +kernel) rfl)
theorem wl_L_10 : Cond.classLink RL 10 RX8 ∈ gtbl := (gt_in 838 (by decide +kernel) rfl)
theorem wk_X7_63 : Cond.constant RX7 63 (1000000) ∈ gtbl := (gt_in 271 (by decide +kernel) rfl)
theorem wk_J8_200 : Cond.constant RJ8 200 (2147483639) ∈ gtbl := (gt_in 356 (by decide +kernel) rfl)
theorem wk_X3_36 : Cond.constantLong RX3 36 (-1) ∈ gtbl := (gt_in 533 (by decide +kernel) rfl)
theorem wk_J6_265 : Cond.constant RJ6 265 (1431655765) ∈ gtbl := (gt_in 586 (by decide +kernel) rfl)
theorem wk_J6_266 : Cond.constant RJ6 266 (858993459) ∈ gtbl := (gt_in 587 (by decide +kernel) rfl)
theorem wk_J6_267 : Cond.constant RJ6 267 (252645135) ∈ gtbl := (gt_in 588 (by decide +kernel) rfl)
theorem wk_X8_143 : Cond.constant RX8 143 (1000000) ∈ gtbl := (gt_in 995 (by decide +kernel) rfl)
theorem wk_X8_151 : Cond.constantLong RX8 151 (-1) ∈ gtbl := (gt_in 1031 (by decide +kernel) rfl)
theorem wa_int : Cond.arrayClass .int ∈ gtbl := (gt_in 167 (by decide +kernel) rfl)
theorem wa_long : Cond.arrayClass .long ∈ gtbl := (gt_in 986 (by decide +kernel) rfl)
theorem wa_boolean : Cond.arrayClass .boolean ∈ gtbl := (gt_in 987 (by decide +kernel) rfl)
theorem wf_Jx4a65c_39 : Cond.fieldLink RJx4a65c 39 "java/util/ArrayList" "DEFAULTCAPACITY_EMPTY_ELEMENTDATA" "[Ljava/lang/Object;" ∈ gtbl := (gt_in 117 (by decide +kernel) rfl)
theorem wf_Jx4a65c_9 : Cond.fieldLink RJx4a65c 9 "java/util/ArrayList" "elementData" "[Ljava/lang/Object;" ∈ gtbl := (gt_in 119 (by decide +kernel) rfl)
theorem wf_Jx4a65c_48 : Cond.fieldLink RJx4a65c 48 "java/util/ArrayList" "size" "I" ∈ gtbl := (gt_in 120 (by decide +kernel) rfl)
theorem wf_Jxc12de_7 : Cond.fieldLink RJxc12de 7 "java/util/AbstractList" "modCount" "I" ∈ gtbl := (gt_in 121 (by decide +kernel) rfl)
theorem wf_Jx4a65c_63 : Cond.fieldLink RJx4a65c 63 "java/util/ArrayList" "modCount" "I" ∈ gtbl := (gt_in 122 (by decide +kernel) rfl)
theorem wf_X4_9 : Cond.fieldLink RX4 9 "ModeratorsBench$Ladder" "fade" "I" ∈ gtbl := (gt_in 137 (by decide +kernel) rfl)
theorem wf_X4_15 : Cond.fieldLink RX4 15 "ModeratorsBench$Ladder" "quiet" "I" ∈ gtbl := (gt_in 139 (by decide +kernel) rfl)
theorem wf_X4_18 : Cond.fieldLink RX4 18 "ModeratorsBench$Ladder" "strikeTicks" "[I" ∈ gtbl := (gt_in 141 (by decide +kernel) rfl)
theorem wf_X4_22 : Cond.fieldLink RX4 22 "ModeratorsBench$Ladder" "strikes" "I" ∈ gtbl := (gt_in 142 (by decide +kernel) rfl)
theorem wf_X4_25 : Cond.fieldLink RX4 25 "ModeratorsBench$Ladder" "faded" "I" ∈ gtbl := (gt_in 143 (by decide +kernel) rfl)
theorem wf_X4_28 : Cond.fieldLink RX4 28 "ModeratorsBench$Ladder" "level" "I" ∈ gtbl := (gt_in 144 (by decide +kernel) rfl)
theorem wf_X4_31 : Cond.fieldLink RX4 31 "ModeratorsBench$Ladder" "silent" "Z" ∈ gtbl := (gt_in 146 (by decide +kernel) rfl)
theorem wf_X4_35 : Cond.fieldLink RX4 35 "ModeratorsBench$Ladder" "goneFrom" "I" ∈ gtbl := (gt_in 148 (by decide +kernel) rfl)
theorem wf_X6_19 : Cond.fieldLink RX6 19 "ModeratorsBench$Rule" "number" "I" ∈ gtbl := (gt_in 173 (by decide +kernel) rfl)
theorem wf_X6_7 : Cond.fieldLink RX6 7 "ModeratorsBench$Rule" "grade" "I" ∈ gtbl := (gt_in 176 (by decide +kernel) rfl)
theorem wf_X6_13 : Cond.fieldLink RX6 13 "ModeratorsBench$Rule" "harm" "I" ∈ gtbl := (gt_in 179 (by decide +kernel) rfl)
theorem wf_X6_16 : Cond.fieldLink RX6 16 "ModeratorsBench$Rule" "follows" "I" ∈ gtbl := (gt_in 181 (by decide +kernel) rfl)
theorem wf_X3_33 : Cond.fieldLink RX3 33 "ModeratorsBench$Judge" "bit" "I" ∈ gtbl := (gt_in 198 (by decide +kernel) rfl)
theorem wf_X3_7 : Cond.fieldLink RX3 7 "ModeratorsBench$Judge" "skills" "I" ∈ gtbl := (gt_in 202 (by decide +kernel) rfl)
theorem wf_X3_13 : Cond.fieldLink RX3 13 "ModeratorsBench$Judge" "kinBits" "J" ∈ gtbl := (gt_in 204 (by decide +kernel) rfl)
theorem wf_X3_17 : Cond.fieldLink RX3 17 "ModeratorsBench$Judge" "load" "I" ∈ gtbl := (gt_in 205 (by decide +kernel) rfl)
theorem wf_X3_20 : Cond.fieldLink RX3 20 "ModeratorsBench$Judge" "weight" "I" ∈ gtbl := (gt_in 207 (by decide +kernel) rfl)
theorem wf_X3_23 : Cond.fieldLink RX3 23 "ModeratorsBench$Judge" "rests" "Z" ∈ gtbl := (gt_in 210 (by decide +kernel) rfl)
theorem wf_X3_27 : Cond.fieldLink RX3 27 "ModeratorsBench$Judge" "gifts" "I" ∈ gtbl := (gt_in 212 (by decide +kernel) rfl)
theorem wf_X3_30 : Cond.fieldLink RX3 30 "ModeratorsBench$Judge" "votes" "I" ∈ gtbl := (gt_in 214 (by decide +kernel) rfl)
theorem wf_X7_11 : Cond.fieldLink RX7 11 "ModeratorsBench" "rules" "[LModeratorsBench$Rule;" ∈ gtbl := (gt_in 233 (by decide +kernel) rfl)
theorem wf_X7_17 : Cond.fieldLink RX7 17 "ModeratorsBench" "judges" "[LModeratorsBench$Judge;" ∈ gtbl := (gt_in 234 (by decide +kernel) rfl)
theorem wf_X7_24 : Cond.fieldLink RX7 24 "ModeratorsBench" "posts" "Ljava/util/ArrayList;" ∈ gtbl := (gt_in 235 (by decide +kernel) rfl)
theorem wf_X7_28 : Cond.fieldLink RX7 28 "ModeratorsBench" "cases" "Ljava/util/ArrayList;" ∈ gtbl := (gt_in 236 (by decide +kernel) rfl)
theorem wf_X7_31 : Cond.fieldLink RX7 31 "ModeratorsBench" "gifts" "Ljava/util/ArrayList;" ∈ gtbl := (gt_in 237 (by decide +kernel) rfl)
theorem wf_X7_34 : Cond.fieldLink RX7 34 "ModeratorsBench" "dueOfGrade" "[I" ∈ gtbl := (gt_in 238 (by decide +kernel) rfl)
theorem wf_X7_41 : Cond.fieldLink RX7 41 "ModeratorsBench" "ladder" "LModeratorsBench$Ladder;" ∈ gtbl := (gt_in 239 (by decide +kernel) rfl)
theorem wf_X7_45 : Cond.fieldLink RX7 45 "ModeratorsBench" "now" "I" ∈ gtbl := (gt_in 240 (by decide +kernel) rfl)
theorem wf_X7_49 : Cond.fieldLink RX7 49 "ModeratorsBench" "doubtLimit" "I" ∈ gtbl := (gt_in 241 (by decide +kernel) rfl)
theorem wf_X7_52 : Cond.fieldLink RX7 52 "ModeratorsBench" "judgements" "I" ∈ gtbl := (gt_in 242 (by decide +kernel) rfl)
theorem wf_X5_16 : Cond.fieldLink RX5 16 "ModeratorsBench$Post" "number" "I" ∈ gtbl := (gt_in 306 (by decide +kernel) rfl)
theorem wf_X5_20 : Cond.fieldLink RX5 20 "ModeratorsBench$Post" "author" "I" ∈ gtbl := (gt_in 308 (by decide +kernel) rfl)
theorem wf_X5_23 : Cond.fieldLink RX5 23 "ModeratorsBench$Post" "reach" "I" ∈ gtbl := (gt_in 310 (by decide +kernel) rfl)
theorem wf_X5_26 : Cond.fieldLink RX5 26 "ModeratorsBench$Post" "marks" "I" ∈ gtbl := (gt_in 312 (by decide +kernel) rfl)
theorem wf_X5_29 : Cond.fieldLink RX5 29 "ModeratorsBench$Post" "came" "I" ∈ gtbl := (gt_in 314 (by decide +kernel) rfl)
theorem wf_X5_7 : Cond.fieldLink RX5 7 "ModeratorsBench$Post" "firstCase" "LModeratorsBench$Case;" ∈ gtbl := (gt_in 316 (by decide +kernel) rfl)
theorem wf_X5_13 : Cond.fieldLink RX5 13 "ModeratorsBench$Post" "lastCase" "LModeratorsBench$Case;" ∈ gtbl := (gt_in 318 (by decide +kernel) rfl)
theorem wf_X2_31 : Cond.fieldLink RX2 31 "ModeratorsBench$Hearing" "asks" "I" ∈ gtbl := (gt_in 429 (by decide +kernel) rfl)
theorem wf_X2_9 : Cond.fieldLink RX2 9 "ModeratorsBench$Hearing" "timesMore" "I" ∈ gtbl := (gt_in 432 (by decide +kernel) rfl)
theorem wf_X2_15 : Cond.fieldLink RX2 15 "ModeratorsBench$Hearing" "voters" "I" ∈ gtbl := (gt_in 433 (by decide +kernel) rfl)
theorem wf_X2_18 : Cond.fieldLink RX2 18 "ModeratorsBench$Hearing" "guiltyVoters" "I" ∈ gtbl := (gt_in 435 (by decide +kernel) rfl)
theorem wf_X2_21 : Cond.fieldLink RX2 21 "ModeratorsBench$Hearing" "guiltyWeight" "I" ∈ gtbl := (gt_in 436 (by decide +kernel) rfl)
theorem wf_X2_24 : Cond.fieldLink RX2 24 "ModeratorsBench$Hearing" "otherWeight" "I" ∈ gtbl := (gt_in 438 (by decide +kernel) rfl)
theorem wf_X2_27 : Cond.fieldLink RX2 27 "ModeratorsBench$Hearing" "over" "Z" ∈ gtbl := (gt_in 440 (by decide +kernel) rfl)
theorem wf_X0_32 : Cond.fieldLink RX0 32 "ModeratorsBench$Case" "number" "I" ∈ gtbl := (gt_in 457 (by decide +kernel) rfl)
theorem wf_X0_35 : Cond.fieldLink RX0 35 "ModeratorsBench$Case" "post" "LModeratorsBench$Post;" ∈ gtbl := (gt_in 459 (by decide +kernel) rfl)
theorem wf_X0_39 : Cond.fieldLink RX0 39 "ModeratorsBench$Case" "rule" "LModeratorsBench$Rule;" ∈ gtbl := (gt_in 461 (by decide +kernel) rfl)
theorem wf_X0_48 : Cond.fieldLink RX0 48 "ModeratorsBench$Case" "grade" "I" ∈ gtbl := (gt_in 464 (by decide +kernel) rfl)
theorem wf_X0_54 : Cond.fieldLink RX0 54 "ModeratorsBench$Case" "first" "LModeratorsBench$Hearing;" ∈ gtbl := (gt_in 466 (by decide +kernel) rfl)
theorem wf_X0_9 : Cond.fieldLink RX0 9 "ModeratorsBench$Case" "second" "LModeratorsBench$Hearing;" ∈ gtbl := (gt_in 467 (by decide +kernel) rfl)
theorem wf_X0_57 : Cond.fieldLink RX0 57 "ModeratorsBench$Case" "since" "I" ∈ gtbl := (gt_in 468 (by decide +kernel) rfl)
theorem wf_X0_15 : Cond.fieldLink RX0 15 "ModeratorsBench$Case" "complaints" "I" ∈ gtbl := (gt_in 470 (by decide +kernel) rfl)
theorem wf_X0_19 : Cond.fieldLink RX0 19 "ModeratorsBench$Case" "state" "I" ∈ gtbl := (gt_in 472 (by decide +kernel) rfl)
theorem wf_X0_22 : Cond.fieldLink RX0 22 "ModeratorsBench$Case" "knownGuilt" "I" ∈ gtbl := (gt_in 474 (by decide +kernel) rfl)
theorem wf_X0_25 : Cond.fieldLink RX0 25 "ModeratorsBench$Case" "holders" "I" ∈ gtbl := (gt_in 476 (by decide +kernel) rfl)
theorem wf_X0_28 : Cond.fieldLink RX0 28 "ModeratorsBench$Case" "nextOfPost" "LModeratorsBench$Case;" ∈ gtbl := (gt_in 478 (by decide +kernel) rfl)
theorem wf_X1_7 : Cond.fieldLink RX1 7 "ModeratorsBench$Gift" "judge" "LModeratorsBench$Judge;" ∈ gtbl := (gt_in 623 (by decide +kernel) rfl)
theorem wf_X1_13 : Cond.fieldLink RX1 13 "ModeratorsBench$Gift" "held" "LModeratorsBench$Case;" ∈ gtbl := (gt_in 625 (by decide +kernel) rfl)
theorem wf_X8_140 : Cond.fieldLink RX8 140 "ModeratorsBenchModel" "tick" "I" ∈ gtbl := (gt_in 844 (by decide +kernel) rfl)
theorem wf_X8_9 : Cond.fieldLink RX8 9 "ModeratorsBenchModel" "grade" "[I" ∈ gtbl := (gt_in 845 (by decide +kernel) rfl)
theorem wf_X8_13 : Cond.fieldLink RX8 13 "ModeratorsBenchModel" "harm" "[I" ∈ gtbl := (gt_in 846 (by decide +kernel) rfl)
theorem wf_X8_16 : Cond.fieldLink RX8 16 "ModeratorsBenchModel" "follows" "[I" ∈ gtbl := (gt_in 847 (by decide +kernel) rfl)
theorem wf_X8_19 : Cond.fieldLink RX8 19 "ModeratorsBenchModel" "due" "[I" ∈ gtbl := (gt_in 848 (by decide +kernel) rfl)
theorem wf_X8_22 : Cond.fieldLink RX8 22 "ModeratorsBenchModel" "fade" "I" ∈ gtbl := (gt_in 849 (by decide +kernel) rfl)
theorem wf_X8_26 : Cond.fieldLink RX8 26 "ModeratorsBenchModel" "quiet" "I" ∈ gtbl := (gt_in 850 (by decide +kernel) rfl)
theorem wf_X8_29 : Cond.fieldLink RX8 29 "ModeratorsBenchModel" "limit" "I" ∈ gtbl := (gt_in 851 (by decide +kernel) rfl)
theorem wf_X8_32 : Cond.fieldLink RX8 32 "ModeratorsBenchModel" "writer" "[I" ∈ gtbl := (gt_in 852 (by decide +kernel) rfl)
theorem wf_X8_35 : Cond.fieldLink RX8 35 "ModeratorsBenchModel" "came" "[I" ∈ gtbl := (gt_in 853 (by decide +kernel) rfl)
theorem wf_X8_38 : Cond.fieldLink RX8 38 "ModeratorsBenchModel" "reach" "[I" ∈ gtbl := (gt_in 854 (by decide +kernel) rfl)
theorem wf_X8_41 : Cond.fieldLink RX8 41 "ModeratorsBenchModel" "marks" "[I" ∈ gtbl := (gt_in 855 (by decide +kernel) rfl)
theorem wf_X8_144 : Cond.fieldLink RX8 144 "ModeratorsBenchModel" "posts" "I" ∈ gtbl := (gt_in 856 (by decide +kernel) rfl)
theorem wf_X8_44 : Cond.fieldLink RX8 44 "ModeratorsBenchModel" "post" "[I" ∈ gtbl := (gt_in 857 (by decide +kernel) rfl)
theorem wf_X8_47 : Cond.fieldLink RX8 47 "ModeratorsBenchModel" "rule" "[I" ∈ gtbl := (gt_in 858 (by decide +kernel) rfl)
theorem wf_X8_50 : Cond.fieldLink RX8 50 "ModeratorsBenchModel" "state" "[I" ∈ gtbl := (gt_in 859 (by decide +kernel) rfl)
theorem wf_X8_53 : Cond.fieldLink RX8 53 "ModeratorsBenchModel" "complaints" "[I" ∈ gtbl := (gt_in 860 (by decide +kernel) rfl)
theorem wf_X8_56 : Cond.fieldLink RX8 56 "ModeratorsBenchModel" "caseGrade" "[I" ∈ gtbl := (gt_in 861 (by decide +kernel) rfl)
theorem wf_X8_59 : Cond.fieldLink RX8 59 "ModeratorsBenchModel" "waitsFrom" "[I" ∈ gtbl := (gt_in 862 (by decide +kernel) rfl)
theorem wf_X8_62 : Cond.fieldLink RX8 62 "ModeratorsBenchModel" "asks" "[I" ∈ gtbl := (gt_in 863 (by decide +kernel) rfl)
theorem wf_X8_65 : Cond.fieldLink RX8 65 "ModeratorsBenchModel" "mores" "[I" ∈ gtbl := (gt_in 864 (by decide +kernel) rfl)
theorem wf_X8_68 : Cond.fieldLink RX8 68 "ModeratorsBenchModel" "times" "[I" ∈ gtbl := (gt_in 865 (by decide +kernel) rfl)
theorem wf_X8_71 : Cond.fieldLink RX8 71 "ModeratorsBenchModel" "known" "[I" ∈ gtbl := (gt_in 866 (by decide +kernel) rfl)
theorem wf_X8_74 : Cond.fieldLink RX8 74 "ModeratorsBenchModel" "result" "[I" ∈ gtbl := (gt_in 867 (by decide +kernel) rfl)
theorem wf_X8_77 : Cond.fieldLink RX8 77 "ModeratorsBenchModel" "lastVotes" "[I" ∈ gtbl := (gt_in 868 (by decide +kernel) rfl)
theorem wf_X8_80 : Cond.fieldLink RX8 80 "ModeratorsBenchModel" "lastGuilty" "[I" ∈ gtbl := (gt_in 869 (by decide +kernel) rfl)
theorem wf_X8_83 : Cond.fieldLink RX8 83 "ModeratorsBenchModel" "lastOthers" "[I" ∈ gtbl := (gt_in 870 (by decide +kernel) rfl)
theorem wf_X8_133 : Cond.fieldLink RX8 133 "ModeratorsBenchModel" "cases" "I" ∈ gtbl := (gt_in 871 (by decide +kernel) rfl)
theorem wf_X8_197 : Cond.fieldLink RX8 197 "ModeratorsBenchModel" "judgements" "I" ∈ gtbl := (gt_in 872 (by decide +kernel) rfl)
theorem wf_X8_86 : Cond.fieldLink RX8 86 "ModeratorsBenchModel" "skills" "[I" ∈ gtbl := (gt_in 873 (by decide +kernel) rfl)
theorem wf_X8_89 : Cond.fieldLink RX8 89 "ModeratorsBenchModel" "kin" "[J" ∈ gtbl := (gt_in 874 (by decide +kernel) rfl)
theorem wf_X8_93 : Cond.fieldLink RX8 93 "ModeratorsBenchModel" "load" "[I" ∈ gtbl := (gt_in 875 (by decide +kernel) rfl)
theorem wf_X8_96 : Cond.fieldLink RX8 96 "ModeratorsBenchModel" "weight" "[I" ∈ gtbl := (gt_in 876 (by decide +kernel) rfl)
theorem wf_X8_99 : Cond.fieldLink RX8 99 "ModeratorsBenchModel" "rests" "[Z" ∈ gtbl := (gt_in 877 (by decide +kernel) rfl)
theorem wf_X8_103 : Cond.fieldLink RX8 103 "ModeratorsBenchModel" "giftJudge" "[I" ∈ gtbl := (gt_in 878 (by decide +kernel) rfl)
theorem wf_X8_106 : Cond.fieldLink RX8 106 "ModeratorsBenchModel" "giftCase" "[I" ∈ gtbl := (gt_in 879 (by decide +kernel) rfl)
theorem wf_X8_153 : Cond.fieldLink RX8 153 "ModeratorsBenchModel" "gifts" "I" ∈ gtbl := (gt_in 880 (by decide +kernel) rfl)
theorem wf_X8_109 : Cond.fieldLink RX8 109 "ModeratorsBenchModel" "voteJudge" "[I" ∈ gtbl := (gt_in 881 (by decide +kernel) rfl)
theorem wf_X8_112 : Cond.fieldLink RX8 112 "ModeratorsBenchModel" "voteCase" "[I" ∈ gtbl := (gt_in 882 (by decide +kernel) rfl)
theorem wf_X8_115 : Cond.fieldLink RX8 115 "ModeratorsBenchModel" "voteTime" "[I" ∈ gtbl := (gt_in 883 (by decide +kernel) rfl)
theorem wf_X8_118 : Cond.fieldLink RX8 118 "ModeratorsBenchModel" "voteGuilty" "[I" ∈ gtbl := (gt_in 884 (by decide +kernel) rfl)
theorem wf_X8_121 : Cond.fieldLink RX8 121 "ModeratorsBenchModel" "voteWeight" "[I" ∈ gtbl := (gt_in 885 (by decide +kernel) rfl)
theorem wf_X8_160 : Cond.fieldLink RX8 160 "ModeratorsBenchModel" "votes" "I" ∈ gtbl := (gt_in 886 (by decide +kernel) rfl)
theorem wf_X8_124 : Cond.fieldLink RX8 124 "ModeratorsBenchModel" "strikeCase" "[I" ∈ gtbl := (gt_in 887 (by decide +kernel) rfl)
theorem wf_X8_127 : Cond.fieldLink RX8 127 "ModeratorsBenchModel" "strikeTick" "[I" ∈ gtbl := (gt_in 888 (by decide +kernel) rfl)
theorem wf_X8_130 : Cond.fieldLink RX8 130 "ModeratorsBenchModel" "strikeLevel" "[I" ∈ gtbl := (gt_in 889 (by decide +kernel) rfl)
theorem wf_X8_210 : Cond.fieldLink RX8 210 "ModeratorsBenchModel" "strikes" "I" ∈ gtbl := (gt_in 890 (by decide +kernel) rfl)
theorem wn_X7_77 : Cond.fieldLinkNest RX7 77 "ModeratorsBench$Ladder" "fade" "I" "ModeratorsBench" ∈ lw_tbl := (List.mem_of_getElem? (i := 138) (by decide +kernel))
theorem wn_X7_80 : Cond.fieldLinkNest RX7 80 "ModeratorsBench$Ladder" "quiet" "I" "ModeratorsBench" ∈ lw_tbl := (List.mem_of_getElem? (i := 140) (by decide +kernel))
theorem wn_X7_301 : Cond.fieldLinkNest RX7 301 "ModeratorsBench$Ladder" "level" "I" "ModeratorsBench" ∈ lw_tbl := (List.mem_of_getElem? (i := 145) (by decide +kernel))
theorem wn_X7_282 : Cond.fieldLinkNest RX7 282 "ModeratorsBench$Ladder" "silent" "Z" "ModeratorsBench" ∈ lw_tbl := (List.mem_of_getElem? (i := 147) (by decide +kernel))
theorem wn_X7_285 : Cond.fieldLinkNest RX7 285 "ModeratorsBench$Ladder" "goneFrom" "I" "ModeratorsBench" ∈ lw_tbl := (List.mem_of_getElem? (i := 149) (by decide +kernel))
theorem wn_X5_41 : Cond.fieldLinkNest RX5 41 "ModeratorsBench$Rule" "number" "I" "ModeratorsBench" ∈ lw_tbl := (List.mem_of_getElem? (i := 174) (by decide +kernel))
theorem wn_X7_226 : Cond.fieldLinkNest RX7 226 "ModeratorsBench$Rule" "number" "I" "ModeratorsBench" ∈ lw_tbl := (List.mem_of_getElem? (i := 175) (by decide +kernel))
theorem wn_X0_43 : Cond.fieldLinkNest RX0 43 "ModeratorsBench$Rule" "grade" "I" "ModeratorsBench" ∈ lw_tbl := (List.mem_of_getElem? (i := 177) (by decide +kernel))
theorem wn_X7_68 : Cond.fieldLinkNest RX7 68 "ModeratorsBench$Rule" "grade" "I" "ModeratorsBench" ∈ lw_tbl := (List.mem_of_getElem? (i := 178) (by decide +kernel))
theorem wn_X7_71 : Cond.fieldLinkNest RX7 71 "ModeratorsBench$Rule" "harm" "I" "ModeratorsBench" ∈ lw_tbl := (List.mem_of_getElem? (i := 180) (by decide +kernel))
theorem wn_X7_74 : Cond.fieldLinkNest RX7 74 "ModeratorsBench$Rule" "follows" "I" "ModeratorsBench" ∈ lw_tbl := (List.mem_of_getElem? (i := 182) (by decide +kernel))
theorem wn_X0_64 : Cond.fieldLinkNest RX0 64 "ModeratorsBench$Rule" "follows" "I" "ModeratorsBench" ∈ lw_tbl := (List.mem_of_getElem? (i := 183) (by decide +kernel))
theorem wn_X2_40 : Cond.fieldLinkNest RX2 40 "ModeratorsBench$Judge" "bit" "I" "ModeratorsBench" ∈ lw_tbl := (List.mem_of_getElem? (i := 199) (by decide +kernel))
theorem wn_X0_87 : Cond.fieldLinkNest RX0 87 "ModeratorsBench$Judge" "bit" "I" "ModeratorsBench" ∈ lw_tbl := (List.mem_of_getElem? (i := 200) (by decide +kernel))
theorem wn_X7_166 : Cond.fieldLinkNest RX7 166 "ModeratorsBench$Judge" "bit" "I" "ModeratorsBench" ∈ lw_tbl := (List.mem_of_getElem? (i := 201) (by decide +kernel))
theorem wn_X7_123 : Cond.fieldLinkNest RX7 123 "ModeratorsBench$Judge" "skills" "I" "ModeratorsBench" ∈ lw_tbl := (List.mem_of_getElem? (i := 203) (by decide +kernel))
theorem wn_X7_126 : Cond.fieldLinkNest RX7 126 "ModeratorsBench$Judge" "load" "I" "ModeratorsBench" ∈ lw_tbl := (List.mem_of_getElem? (i := 206) (by decide +kernel))
theorem wn_X2_45 : Cond.fieldLinkNest RX2 45 "ModeratorsBench$Judge" "weight" "I" "ModeratorsBench" ∈ lw_tbl := (List.mem_of_getElem? (i := 208) (by decide +kernel))
theorem wn_X7_129 : Cond.fieldLinkNest RX7 129 "ModeratorsBench$Judge" "weight" "I" "ModeratorsBench" ∈ lw_tbl := (List.mem_of_getElem? (i := 209) (by decide +kernel))
theorem wn_X7_144 : Cond.fieldLinkNest RX7 144 "ModeratorsBench$Judge" "rests" "Z" "ModeratorsBench" ∈ lw_tbl := (List.mem_of_getElem? (i := 211) (by decide +kernel))
theorem wn_X7_161 : Cond.fieldLinkNest RX7 161 "ModeratorsBench$Judge" "gifts" "I" "ModeratorsBench" ∈ lw_tbl := (List.mem_of_getElem? (i := 213) (by decide +kernel))
theorem wn_X7_187 : Cond.fieldLinkNest RX7 187 "ModeratorsBench$Judge" "votes" "I" "ModeratorsBench" ∈ lw_tbl := (List.mem_of_getElem? (i := 215) (by decide +kernel))
theorem wn_X7_221 : Cond.fieldLinkNest RX7 221 "ModeratorsBench$Post" "number" "I" "ModeratorsBench" ∈ lw_tbl := (List.mem_of_getElem? (i := 307) (by decide +kernel))
theorem wn_X7_298 : Cond.fieldLinkNest RX7 298 "ModeratorsBench$Post" "author" "I" "ModeratorsBench" ∈ lw_tbl := (List.mem_of_getElem? (i := 309) (by decide +kernel))
theorem wn_X7_332 : Cond.fieldLinkNest RX7 332 "ModeratorsBench$Post" "reach" "I" "ModeratorsBench" ∈ lw_tbl := (List.mem_of_getElem? (i := 311) (by decide +kernel))
theorem wn_X0_116 : Cond.fieldLinkNest RX0 116 "ModeratorsBench$Post" "marks" "I" "ModeratorsBench" ∈ lw_tbl := (List.mem_of_getElem? (i := 313) (by decide +kernel))
theorem wn_X7_377 : Cond.fieldLinkNest RX7 377 "ModeratorsBench$Post" "came" "I" "ModeratorsBench" ∈ lw_tbl := (List.mem_of_getElem? (i := 315) (by decide +kernel))
theorem wn_X7_374 : Cond.fieldLinkNest RX7 374 "ModeratorsBench$Post" "firstCase" "LModeratorsBench$Case;" "ModeratorsBench" ∈ lw_tbl := (List.mem_of_getElem? (i := 317) (by decide +kernel))
theorem wn_X0_77 : Cond.fieldLinkNest RX0 77 "ModeratorsBench$Hearing" "asks" "I" "ModeratorsBench" ∈ lw_tbl := (List.mem_of_getElem? (i := 430) (by decide +kernel))
theorem wn_X7_231 : Cond.fieldLinkNest RX7 231 "ModeratorsBench$Hearing" "asks" "I" "ModeratorsBench" ∈ lw_tbl := (List.mem_of_getElem? (i := 431) (by decide +kernel))
theorem wn_X0_125 : Cond.fieldLinkNest RX0 125 "ModeratorsBench$Hearing" "voters" "I" "ModeratorsBench" ∈ lw_tbl := (List.mem_of_getElem? (i := 434) (by decide +kernel))
theorem wn_X7_249 : Cond.fieldLinkNest RX7 249 "ModeratorsBench$Hearing" "guiltyWeight" "I" "ModeratorsBench" ∈ lw_tbl := (List.mem_of_getElem? (i := 437) (by decide +kernel))
theorem wn_X7_252 : Cond.fieldLinkNest RX7 252 "ModeratorsBench$Hearing" "otherWeight" "I" "ModeratorsBench" ∈ lw_tbl := (List.mem_of_getElem? (i := 439) (by decide +kernel))
theorem wn_X0_102 : Cond.fieldLinkNest RX0 102 "ModeratorsBench$Hearing" "over" "Z" "ModeratorsBench" ∈ lw_tbl := (List.mem_of_getElem? (i := 441) (by decide +kernel))
theorem wn_X7_109 : Cond.fieldLinkNest RX7 109 "ModeratorsBench$Case" "number" "I" "ModeratorsBench" ∈ lw_tbl := (List.mem_of_getElem? (i := 458) (by decide +kernel))
theorem wn_X7_217 : Cond.fieldLinkNest RX7 217 "ModeratorsBench$Case" "post" "LModeratorsBench$Post;" "ModeratorsBench" ∈ lw_tbl := (List.mem_of_getElem? (i := 460) (by decide +kernel))
theorem wn_X5_37 : Cond.fieldLinkNest RX5 37 "ModeratorsBench$Case" "rule" "LModeratorsBench$Rule;" "ModeratorsBench" ∈ lw_tbl := (List.mem_of_getElem? (i := 462) (by decide +kernel))
theorem wn_X7_222 : Cond.fieldLinkNest RX7 222 "ModeratorsBench$Case" "rule" "LModeratorsBench$Rule;" "ModeratorsBench" ∈ lw_tbl := (List.mem_of_getElem? (i := 463) (by decide +kernel))
theorem wn_X7_357 : Cond.fieldLinkNest RX7 357 "ModeratorsBench$Case" "grade" "I" "ModeratorsBench" ∈ lw_tbl := (List.mem_of_getElem? (i := 465) (by decide +kernel))
theorem wn_X7_358 : Cond.fieldLinkNest RX7 358 "ModeratorsBench$Case" "since" "I" "ModeratorsBench" ∈ lw_tbl := (List.mem_of_getElem? (i := 469) (by decide +kernel))
theorem wn_X7_104 : Cond.fieldLinkNest RX7 104 "ModeratorsBench$Case" "complaints" "I" "ModeratorsBench" ∈ lw_tbl := (List.mem_of_getElem? (i := 471) (by decide +kernel))
theorem wn_X7_203 : Cond.fieldLinkNest RX7 203 "ModeratorsBench$Case" "state" "I" "ModeratorsBench" ∈ lw_tbl := (List.mem_of_getElem? (i := 473) (by decide +kernel))
theorem wn_X7_258 : Cond.fieldLinkNest RX7 258 "ModeratorsBench$Case" "knownGuilt" "I" "ModeratorsBench" ∈ lw_tbl := (List.mem_of_getElem? (i := 475) (by decide +kernel))
theorem wn_X7_163 : Cond.fieldLinkNest RX7 163 "ModeratorsBench$Case" "holders" "I" "ModeratorsBench" ∈ lw_tbl := (List.mem_of_getElem? (i := 477) (by decide +kernel))
theorem wn_X5_32 : Cond.fieldLinkNest RX5 32 "ModeratorsBench$Case" "nextOfPost" "LModeratorsBench$Case;" "ModeratorsBench" ∈ lw_tbl := (List.mem_of_getElem? (i := 479) (by decide +kernel))
theorem wn_X7_384 : Cond.fieldLinkNest RX7 384 "ModeratorsBench$Case" "nextOfPost" "LModeratorsBench$Case;" "ModeratorsBench" ∈ lw_tbl := (List.mem_of_getElem? (i := 480) (by decide +kernel))
theorem wn_X7_335 : Cond.fieldLinkNest RX7 335 "ModeratorsBench$Gift" "judge" "LModeratorsBench$Judge;" "ModeratorsBench" ∈ lw_tbl := (List.mem_of_getElem? (i := 624) (by decide +kernel))
theorem wn_X7_173 : Cond.fieldLinkNest RX7 173 "ModeratorsBench$Gift" "held" "LModeratorsBench$Case;" "ModeratorsBench" ∈ lw_tbl := (List.mem_of_getElem? (i := 626) (by decide +kernel))
theorem wu_Jx4a65c : ∀ w ∈ u_ws RJx4a65c TJx4a65c 3, w ∈ gtbl := by
  intro w hw
  obtain ⟨k, hk, rfl⟩ := List.mem_map.mp hw
  have hk := List.mem_range.mp hk
  match k, hk with
  | 0, _ => exact (gt_in 128 (by decide +kernel) rfl)
  | 1, _ => exact (gt_in 124 (by decide +kernel) rfl)
  | 2, _ => exact (gt_in 126 (by decide +kernel) rfl)
  | j + 3, h => exact absurd h (by omega)
theorem wu_X0 : ∀ w ∈ u_ws RX0 TX0 12, w ∈ gtbl := by
  intro w hw
  obtain ⟨k, hk, rfl⟩ := List.mem_map.mp hw
  have hk := List.mem_range.mp hk
  match k, hk with
  | 0, _ => exact (gt_in 481 (by decide +kernel) rfl)
  | 1, _ => exact (gt_in 483 (by decide +kernel) rfl)
  | 2, _ => exact (gt_in 485 (by decide +kernel) rfl)
  | 3, _ => exact (gt_in 487 (by decide +kernel) rfl)
  | 4, _ => exact (gt_in 489 (by decide +kernel) rfl)
  | 5, _ => exact (gt_in 491 (by decide +kernel) rfl)
  | 6, _ => exact (gt_in 493 (by decide +kernel) rfl)
  | 7, _ => exact (gt_in 495 (by decide +kernel) rfl)
  | 8, _ => exact (gt_in 497 (by decide +kernel) rfl)
  | 9, _ => exact (gt_in 499 (by decide +kernel) rfl)
  | 10, _ => exact (gt_in 501 (by decide +kernel) rfl)
  | 11, _ => exact (gt_in 503 (by decide +kernel) rfl)
  | j + 12, h => exact absurd h (by omega)
theorem wu_X1 : ∀ w ∈ u_ws RX1 TX1 2, w ∈ gtbl := by
  intro w hw
  obtain ⟨k, hk, rfl⟩ := List.mem_map.mp hw
  have hk := List.mem_range.mp hk
  match k, hk with
  | 0, _ => exact (gt_in 627 (by decide +kernel) rfl)
  | 1, _ => exact (gt_in 629 (by decide +kernel) rfl)
  | j + 2, h => exact absurd h (by omega)
theorem wu_X2 : ∀ w ∈ u_ws RX2 TX2 7, w ∈ gtbl := by
  intro w hw
  obtain ⟨k, hk, rfl⟩ := List.mem_map.mp hw
  have hk := List.mem_range.mp hk
  match k, hk with
  | 0, _ => exact (gt_in 442 (by decide +kernel) rfl)
  | 1, _ => exact (gt_in 444 (by decide +kernel) rfl)
  | 2, _ => exact (gt_in 446 (by decide +kernel) rfl)
  | 3, _ => exact (gt_in 448 (by decide +kernel) rfl)
  | 4, _ => exact (gt_in 450 (by decide +kernel) rfl)
  | 5, _ => exact (gt_in 452 (by decide +kernel) rfl)
  | 6, _ => exact (gt_in 454 (by decide +kernel) rfl)
  | j + 7, h => exact absurd h (by omega)
theorem wu_X3 : ∀ w ∈ u_ws RX3 TX3 8, w ∈ gtbl := by
  intro w hw
  obtain ⟨k, hk, rfl⟩ := List.mem_map.mp hw
  have hk := List.mem_range.mp hk
  match k, hk with
  | 0, _ => exact (gt_in 216 (by decide +kernel) rfl)
  | 1, _ => exact (gt_in 218 (by decide +kernel) rfl)
  | 2, _ => exact (gt_in 220 (by decide +kernel) rfl)
  | 3, _ => exact (gt_in 222 (by decide +kernel) rfl)
  | 4, _ => exact (gt_in 224 (by decide +kernel) rfl)
  | 5, _ => exact (gt_in 226 (by decide +kernel) rfl)
  | 6, _ => exact (gt_in 228 (by decide +kernel) rfl)
  | 7, _ => exact (gt_in 230 (by decide +kernel) rfl)
  | j + 8, h => exact absurd h (by omega)
theorem wu_X4 : ∀ w ∈ u_ws RX4 TX4 8, w ∈ gtbl := by
  intro w hw
  obtain ⟨k, hk, rfl⟩ := List.mem_map.mp hw
  have hk := List.mem_range.mp hk
  match k, hk with
  | 0, _ => exact (gt_in 150 (by decide +kernel) rfl)
  | 1, _ => exact (gt_in 152 (by decide +kernel) rfl)
  | 2, _ => exact (gt_in 154 (by decide +kernel) rfl)
  | 3, _ => exact (gt_in 156 (by decide +kernel) rfl)
  | 4, _ => exact (gt_in 158 (by decide +kernel) rfl)
  | 5, _ => exact (gt_in 160 (by decide +kernel) rfl)
  | 6, _ => exact (gt_in 162 (by decide +kernel) rfl)
  | 7, _ => exact (gt_in 164 (by decide +kernel) rfl)
  | j + 8, h => exact absurd h (by omega)
theorem wu_X5 : ∀ w ∈ u_ws RX5 TX5 7, w ∈ gtbl := by
  intro w hw
  obtain ⟨k, hk, rfl⟩ := List.mem_map.mp hw
  have hk := List.mem_range.mp hk
  match k, hk with
  | 0, _ => exact (gt_in 319 (by decide +kernel) rfl)
  | 1, _ => exact (gt_in 321 (by decide +kernel) rfl)
  | 2, _ => exact (gt_in 323 (by decide +kernel) rfl)
  | 3, _ => exact (gt_in 325 (by decide +kernel) rfl)
  | 4, _ => exact (gt_in 327 (by decide +kernel) rfl)
  | 5, _ => exact (gt_in 329 (by decide +kernel) rfl)
  | 6, _ => exact (gt_in 331 (by decide +kernel) rfl)
  | j + 7, h => exact absurd h (by omega)
theorem wu_X6 : ∀ w ∈ u_ws RX6 TX6 4, w ∈ gtbl := by
  intro w hw
  obtain ⟨k, hk, rfl⟩ := List.mem_map.mp hw
  have hk := List.mem_range.mp hk
  match k, hk with
  | 0, _ => exact (gt_in 184 (by decide +kernel) rfl)
  | 1, _ => exact (gt_in 186 (by decide +kernel) rfl)
  | 2, _ => exact (gt_in 188 (by decide +kernel) rfl)
  | 3, _ => exact (gt_in 190 (by decide +kernel) rfl)
  | j + 4, h => exact absurd h (by omega)
theorem wu_X7 : ∀ w ∈ u_ws RX7 TX7 10, w ∈ gtbl := by
  intro w hw
  obtain ⟨k, hk, rfl⟩ := List.mem_map.mp hw
  have hk := List.mem_range.mp hk
  match k, hk with
  | 0, _ => exact (gt_in 243 (by decide +kernel) rfl)
  | 1, _ => exact (gt_in 245 (by decide +kernel) rfl)
  | 2, _ => exact (gt_in 247 (by decide +kernel) rfl)
  | 3, _ => exact (gt_in 249 (by decide +kernel) rfl)
  | 4, _ => exact (gt_in 251 (by decide +kernel) rfl)
  | 5, _ => exact (gt_in 253 (by decide +kernel) rfl)
  | 6, _ => exact (gt_in 255 (by decide +kernel) rfl)
  | 7, _ => exact (gt_in 257 (by decide +kernel) rfl)
  | 8, _ => exact (gt_in 259 (by decide +kernel) rfl)
  | 9, _ => exact (gt_in 261 (by decide +kernel) rfl)
  | j + 10, h => exact absurd h (by omega)
theorem wu_X8 : ∀ w ∈ u_ws RX8 TX8 47, w ∈ gtbl := by
  intro w hw
  obtain ⟨k, hk, rfl⟩ := List.mem_map.mp hw
  have hk := List.mem_range.mp hk
  match k, hk with
  | 0, _ => exact (gt_in 891 (by decide +kernel) rfl)
  | 1, _ => exact (gt_in 893 (by decide +kernel) rfl)
  | 2, _ => exact (gt_in 895 (by decide +kernel) rfl)
  | 3, _ => exact (gt_in 897 (by decide +kernel) rfl)
  | 4, _ => exact (gt_in 899 (by decide +kernel) rfl)
  | 5, _ => exact (gt_in 901 (by decide +kernel) rfl)
  | 6, _ => exact (gt_in 903 (by decide +kernel) rfl)
  | 7, _ => exact (gt_in 905 (by decide +kernel) rfl)
  | 8, _ => exact (gt_in 907 (by decide +kernel) rfl)
  | 9, _ => exact (gt_in 909 (by decide +kernel) rfl)
  | 10, _ => exact (gt_in 911 (by decide +kernel) rfl)
  | 11, _ => exact (gt_in 913 (by decide +kernel) rfl)
  | 12, _ => exact (gt_in 915 (by decide +kernel) rfl)
  | 13, _ => exact (gt_in 917 (by decide +kernel) rfl)
  | 14, _ => exact (gt_in 919 (by decide +kernel) rfl)
  | 15, _ => exact (gt_in 921 (by decide +kernel) rfl)
  | 16, _ => exact (gt_in 923 (by decide +kernel) rfl)
  | 17, _ => exact (gt_in 925 (by decide +kernel) rfl)
  | 18, _ => exact (gt_in 927 (by decide +kernel) rfl)
  | 19, _ => exact (gt_in 929 (by decide +kernel) rfl)
  | 20, _ => exact (gt_in 931 (by decide +kernel) rfl)
  | 21, _ => exact (gt_in 933 (by decide +kernel) rfl)
  | 22, _ => exact (gt_in 935 (by decide +kernel) rfl)
  | 23, _ => exact (gt_in 937 (by decide +kernel) rfl)
  | 24, _ => exact (gt_in 939 (by decide +kernel) rfl)
  | 25, _ => exact (gt_in 941 (by decide +kernel) rfl)
  | 26, _ => exact (gt_in 943 (by decide +kernel) rfl)
  | 27, _ => exact (gt_in 945 (by decide +kernel) rfl)
  | 28, _ => exact (gt_in 947 (by decide +kernel) rfl)
  | 29, _ => exact (gt_in 949 (by decide +kernel) rfl)
  | 30, _ => exact (gt_in 951 (by decide +kernel) rfl)
  | 31, _ => exact (gt_in 953 (by decide +kernel) rfl)
  | 32, _ => exact (gt_in 955 (by decide +kernel) rfl)
  | 33, _ => exact (gt_in 957 (by decide +kernel) rfl)
  | 34, _ => exact (gt_in 959 (by decide +kernel) rfl)
  | 35, _ => exact (gt_in 961 (by decide +kernel) rfl)
  | 36, _ => exact (gt_in 963 (by decide +kernel) rfl)
  | 37, _ => exact (gt_in 965 (by decide +kernel) rfl)
  | 38, _ => exact (gt_in 967 (by decide +kernel) rfl)
  | 39, _ => exact (gt_in 969 (by decide +kernel) rfl)
  | 40, _ => exact (gt_in 971 (by decide +kernel) rfl)
  | 41, _ => exact (gt_in 973 (by decide +kernel) rfl)
  | 42, _ => exact (gt_in 975 (by decide +kernel) rfl)
  | 43, _ => exact (gt_in 977 (by decide +kernel) rfl)
  | 44, _ => exact (gt_in 979 (by decide +kernel) rfl)
  | 45, _ => exact (gt_in 981 (by decide +kernel) rfl)
  | 46, _ => exact (gt_in 983 (by decide +kernel) rfl)
  | j + 47, h => exact absurd h (by omega)
theorem lk_L_9 : LkI RL 9 yX7_init cX7_init 2 0 := ⟨lb_X7_init, (gt_in 95 (by decide +kernel) rfl), (gt_in 96 (by decide +kernel) rfl), rfl⟩
theorem lk_X7_23 : LkI RX7 23 yJx4a65c_init_da8c8 cJx4a65c_init_da8c8 1 0 := ⟨lb_Jx4a65c_init_da8c8, (gt_in 107 (by decide +kernel) rfl), (gt_in 108 (by decide +kernel) rfl), rfl⟩
theorem lk_Jx4a65c_1 : LkI RJx4a65c 1 yJxc12de_init_da8c8 cJxc12de_init_da8c8 1 0 := ⟨lb_Jxc12de_init_da8c8, (gt_in 110 (by decide +kernel) rfl), (gt_in 111 (by decide +kernel) rfl), rfl⟩
theorem lk_Jxc12de_1 : LkI RJxc12de 1 yJxa1e45_init_da8c8 cJxa1e45_init_da8c8 1 0 := ⟨lb_Jxa1e45_init_da8c8, (gt_in 113 (by decide +kernel) rfl), (gt_in 114 (by decide +kernel) rfl), rfl⟩
theorem lk_L_13 : LkV RL 13 yX7_tick cX7_tick 2 (some .int) 1 := ⟨lb_X7_tick, (gt_in 264 (by decide +kernel) rfl), (gt_in 265 (by decide +kernel) rfl), (gt_in 266 (by decide +kernel) rfl)⟩
theorem lk_X7_59 : LkS RX7 59 yX7_within cX7_within 3 (some .boolean) 3 := ⟨lb_X7_within, (gt_in 268 (by decide +kernel) rfl), (gt_in 269 (by decide +kernel) rfl)⟩
theorem lk_L_18 : LkV RL 18 yX7_rule cX7_rule 6 (some .int) 4 := ⟨lb_X7_rule, (gt_in 272 (by decide +kernel) rfl), (gt_in 273 (by decide +kernel) rfl), (gt_in 274 (by decide +kernel) rfl)⟩
theorem lk_X7_64 : LkV RX7 64 yX7_ruleAt cX7_ruleAt 2 (some (.object "ModeratorsBench$Rule")) 1 := ⟨lb_X7_ruleAt, (gt_in 276 (by decide +kernel) rfl), (gt_in 278 (by decide +kernel) rfl), (gt_in 0 (by decide +kernel) rfl)⟩
theorem lk_L_23 : LkV RL 23 yX7_ladder cX7_ladder 3 (some .int) 2 := ⟨lb_X7_ladder, (gt_in 280 (by decide +kernel) rfl), (gt_in 281 (by decide +kernel) rfl), (gt_in 282 (by decide +kernel) rfl)⟩
theorem lk_L_28 : LkV RL 28 yX7_due cX7_due 4 (some .int) 2 := ⟨lb_X7_due, (gt_in 284 (by decide +kernel) rfl), (gt_in 285 (by decide +kernel) rfl), (gt_in 286 (by decide +kernel) rfl)⟩
theorem lk_L_32 : LkV RL 32 yX7_limit cX7_limit 3 (some .int) 1 := ⟨lb_X7_limit, (gt_in 288 (by decide +kernel) rfl), (gt_in 289 (by decide +kernel) rfl), (gt_in 290 (by decide +kernel) rfl)⟩
theorem lk_L_36 : LkV RL 36 yX7_post cX7_post 5 (some .int) 3 := ⟨lb_X7_post, (gt_in 292 (by decide +kernel) rfl), (gt_in 293 (by decide +kernel) rfl), (gt_in 294 (by decide +kernel) rfl)⟩
theorem lk_X7_83 : LkV RX7 83 yJx4a65c_size_8abf5 cJx4a65c_size_8abf5 1 (some .int) 0 := ⟨lb_Jx4a65c_size_8abf5, (gt_in 296 (by decide +kernel) rfl), (gt_in 297 (by decide +kernel) rfl), (gt_in 298 (by decide +kernel) rfl)⟩
theorem lk_X7_92 : LkV RX7 92 yJx4a65c_add_9ea2d cJx4a65c_add_9ea2d 2 (some .boolean) 1 := ⟨lb_Jx4a65c_add_9ea2d, (gt_in 334 (by decide +kernel) rfl), (gt_in 335 (by decide +kernel) rfl), (gt_in 336 (by decide +kernel) rfl)⟩
theorem lk_Jx4a65c_131 : LkV RJx4a65c 131 yJx4a65c_add_72be8 cJx4a65c_add_72be8 4 none 3 := ⟨lb_Jx4a65c_add_72be8, (gt_in 338 (by decide +kernel) rfl), (gt_in 340 (by decide +kernel) rfl), (gt_in 1 (by decide +kernel) rfl)⟩
theorem lk_Jx4a65c_129 : LkV RJx4a65c 129 yJx4a65c_grow_d5877 cJx4a65c_grow_d5877 1 (some (.array (.object "java/lang/Object"))) 0 := ⟨lb_Jx4a65c_grow_d5877, (gt_in 342 (by decide +kernel) rfl), (gt_in 344 (by decide +kernel) rfl), (gt_in 2 (by decide +kernel) rfl)⟩
theorem lk_Jx4a65c_69 : LkV RJx4a65c 69 yJx4a65c_grow_92f84 cJx4a65c_grow_92f84 4 (some (.array (.object "java/lang/Object"))) 1 := ⟨lb_Jx4a65c_grow_92f84, (gt_in 346 (by decide +kernel) rfl), (gt_in 348 (by decide +kernel) rfl), (gt_in 3 (by decide +kernel) rfl)⟩
theorem lk_Jx4a65c_73 : LkS RJx4a65c 73 yJ8_newLength_cabcc cJ8_newLength_cabcc 4 (some .int) 3 := ⟨lb_J8_newLength_cabcc, (gt_in 350 (by decide +kernel) rfl), (gt_in 351 (by decide +kernel) rfl)⟩
theorem lk_J8_194 : LkS RJ8 194 yJ9_max_7cf53 cJ9_max_7cf53 2 (some .int) 2 := ⟨lb_J9_max_7cf53, (gt_in 353 (by decide +kernel) rfl), (gt_in 354 (by decide +kernel) rfl)⟩
theorem lk_J8_201 : LkS RJ8 201 yJ8_hugeLength_7cf53 cJ8_hugeLength_7cf53 3 (some .int) 2 := ⟨lb_J8_hugeLength_7cf53, (gt_in 357 (by decide +kernel) rfl), (gt_in 358 (by decide +kernel) rfl)⟩
theorem lk_Jx4a65c_66 : LkS RJx4a65c 66 yJ7_copyOf_1904c cJ7_copyOf_1904c 2 (some (.array (.object "java/lang/Object"))) 2 := ⟨lb_J7_copyOf_1904c, (gt_in 360 (by decide +kernel) rfl), (gt_in 361 (by decide +kernel) rfl)⟩
theorem lk_J7_300 : LkS RJ7 300 yJ7_copyOf_6403c cJ7_copyOf_6403c 4 (some (.array (.object "java/lang/Object"))) 3 := ⟨lb_J7_copyOf_6403c, (gt_in 377 (by decide +kernel) rfl), (gt_in 378 (by decide +kernel) rfl)⟩
theorem lk_J7_304 : LkS RJ7 304 yJ9_min_7cf53 cJ9_min_7cf53 2 (some .int) 2 := ⟨lb_J9_min_7cf53, (gt_in 383 (by decide +kernel) rfl), (gt_in 384 (by decide +kernel) rfl)⟩
theorem lk_Jx4a65c_79 : LkS RJx4a65c 79 yJ9_max_7cf53 cJ9_max_7cf53 2 (some .int) 2 := ⟨lb_J9_max_7cf53, (gt_in 389 (by decide +kernel) rfl), (gt_in 354 (by decide +kernel) rfl)⟩
theorem lk_L_41 : LkV RL 41 yX7_complain cX7_complain 8 (some .int) 2 := ⟨lb_X7_complain, (gt_in 391 (by decide +kernel) rfl), (gt_in 392 (by decide +kernel) rfl), (gt_in 393 (by decide +kernel) rfl)⟩
theorem lk_X7_96 : LkV RX7 96 yX7_postAt cX7_postAt 2 (some (.object "ModeratorsBench$Post")) 1 := ⟨lb_X7_postAt, (gt_in 395 (by decide +kernel) rfl), (gt_in 397 (by decide +kernel) rfl), (gt_in 4 (by decide +kernel) rfl)⟩
theorem lk_X7_169 : LkV RX7 169 yJx4a65c_get_915e3 cJx4a65c_get_915e3 2 (some (.object "java/lang/Object")) 1 := ⟨lb_Jx4a65c_get_915e3, (gt_in 399 (by decide +kernel) rfl), (gt_in 400 (by decide +kernel) rfl), (gt_in 401 (by decide +kernel) rfl)⟩
theorem lk_Jx4a65c_118 : LkS RJx4a65c 118 yJ15_checkIndex_7cf53 cJ15_checkIndex_7cf53 2 (some .int) 2 := ⟨lb_J15_checkIndex_7cf53, (gt_in 403 (by decide +kernel) rfl), (gt_in 404 (by decide +kernel) rfl)⟩
theorem lk_J15_105 : LkS RJ15 105 yJ3_checkIndex_8e157 cJ3_checkIndex_8e157 3 (some .int) 3 := ⟨lb_J3_checkIndex_8e157, (gt_in 406 (by decide +kernel) rfl), (gt_in 407 (by decide +kernel) rfl)⟩
theorem lk_Jx4a65c_123 : LkV RJx4a65c 123 yJx4a65c_elementData_915e3 cJx4a65c_elementData_915e3 2 (some (.object "java/lang/Object")) 1 := ⟨lb_Jx4a65c_elementData_915e3, (gt_in 409 (by decide +kernel) rfl), (gt_in 410 (by decide +kernel) rfl), (gt_in 411 (by decide +kernel) rfl)⟩
theorem lk_L_45 : LkV RL 45 yX7_judge cX7_judge 6 (some .int) 4 := ⟨lb_X7_judge, (gt_in 510 (by decide +kernel) rfl), (gt_in 511 (by decide +kernel) rfl), (gt_in 512 (by decide +kernel) rfl)⟩
theorem lk_X7_119 : LkV RX7 119 yX7_judgeAt cX7_judgeAt 2 (some (.object "ModeratorsBench$Judge")) 1 := ⟨lb_X7_judgeAt, (gt_in 514 (by decide +kernel) rfl), (gt_in 516 (by decide +kernel) rfl), (gt_in 7 (by decide +kernel) rfl)⟩
theorem lk_L_49 : LkV RL 49 yX7_kin cX7_kin 6 (some .int) 3 := ⟨lb_X7_kin, (gt_in 518 (by decide +kernel) rfl), (gt_in 519 (by decide +kernel) rfl), (gt_in 520 (by decide +kernel) rfl)⟩
theorem lk_X7_136 : LkS RX7 136 yX7_asNumber cX7_asNumber 1 (some .int) 1 := ⟨lb_X7_asNumber, (gt_in 526 (by decide +kernel) rfl), (gt_in 527 (by decide +kernel) rfl)⟩
theorem lk_L_53 : LkV RL 53 yX7_rest cX7_rest 5 (some .int) 2 := ⟨lb_X7_rest, (gt_in 534 (by decide +kernel) rfl), (gt_in 535 (by decide +kernel) rfl), (gt_in 536 (by decide +kernel) rfl)⟩
theorem lk_X7_148 : LkV RX7 148 yX7_layToRest cX7_layToRest 3 none 1 := ⟨lb_X7_layToRest, (gt_in 538 (by decide +kernel) rfl), (gt_in 540 (by decide +kernel) rfl), (gt_in 10 (by decide +kernel) rfl)⟩
theorem lk_X7_177 : LkV RX7 177 yX7_takeBack cX7_takeBack 3 none 1 := ⟨lb_X7_takeBack, (gt_in 543 (by decide +kernel) rfl), (gt_in 545 (by decide +kernel) rfl), (gt_in 11 (by decide +kernel) rfl)⟩
theorem lk_X7_339 : LkV RX7 339 yJx4a65c_remove_915e3 cJx4a65c_remove_915e3 4 (some (.object "java/lang/Object")) 1 := ⟨lb_Jx4a65c_remove_915e3, (gt_in 547 (by decide +kernel) rfl), (gt_in 548 (by decide +kernel) rfl), (gt_in 549 (by decide +kernel) rfl)⟩
theorem lk_Jx4a65c_144 : LkV RJx4a65c 144 yJx4a65c_fastRemove_b59b0 cJx4a65c_fastRemove_b59b0 4 none 2 := ⟨lb_Jx4a65c_fastRemove_b59b0, (gt_in 551 (by decide +kernel) rfl), (gt_in 553 (by decide +kernel) rfl), (gt_in 12 (by decide +kernel) rfl)⟩
theorem lk_L_57 : LkV RL 57 yX7_next cX7_next 4 (some .int) 1 := ⟨lb_X7_next, (gt_in 556 (by decide +kernel) rfl), (gt_in 557 (by decide +kernel) rfl), (gt_in 558 (by decide +kernel) rfl)⟩
theorem lk_X7_152 : LkV RX7 152 yX7_nextFor cX7_nextFor 7 (some (.object "ModeratorsBench$Case")) 1 := ⟨lb_X7_nextFor, (gt_in 560 (by decide +kernel) rfl), (gt_in 562 (by decide +kernel) rfl), (gt_in 13 (by decide +kernel) rfl)⟩
theorem lk_X7_206 : LkS RX7 206 yX7_mayHave cX7_mayHave 2 (some .boolean) 2 := ⟨lb_X7_mayHave, (gt_in 564 (by decide +kernel) rfl), (gt_in 565 (by decide +kernel) rfl)⟩
theorem lk_X0_73 : LkV RX0 73 yX0_hearing cX0_hearing 1 (some (.object "ModeratorsBench$Hearing")) 0 := ⟨lb_X0_hearing, (gt_in 575 (by decide +kernel) rfl), (gt_in 577 (by decide +kernel) rfl), (gt_in 16 (by decide +kernel) rfl)⟩
theorem lk_X2_34 : LkS RX2 34 yJ6_bitCount_0f7a4 cJ6_bitCount_0f7a4 1 (some .int) 1 := ⟨lb_J6_bitCount_0f7a4, (gt_in 583 (by decide +kernel) rfl), (gt_in 584 (by decide +kernel) rfl)⟩
theorem lk_X0_84 : LkV RX0 84 yX0_giftsOut cX0_giftsOut 1 (some .int) 0 := ⟨lb_X0_giftsOut, (gt_in 589 (by decide +kernel) rfl), (gt_in 591 (by decide +kernel) rfl), (gt_in 18 (by decide +kernel) rfl)⟩
theorem lk_X0_67 : LkS RX0 67 yJ6_bitCount_0f7a4 cJ6_bitCount_0f7a4 1 (some .int) 1 := ⟨lb_J6_bitCount_0f7a4, (gt_in 593 (by decide +kernel) rfl), (gt_in 584 (by decide +kernel) rfl)⟩
theorem lk_L_61 : LkV RL 61 yX7_give cX7_give 4 (some .int) 1 := ⟨lb_X7_give, (gt_in 614 (by decide +kernel) rfl), (gt_in 615 (by decide +kernel) rfl), (gt_in 616 (by decide +kernel) rfl)⟩
theorem lk_L_65 : LkV RL 65 yX7_undo cX7_undo 3 (some .int) 0 := ⟨lb_X7_undo, (gt_in 632 (by decide +kernel) rfl), (gt_in 633 (by decide +kernel) rfl), (gt_in 634 (by decide +kernel) rfl)⟩
theorem lk_L_70 : LkV RL 70 yX7_vote cX7_vote 7 (some .int) 3 := ⟨lb_X7_vote, (gt_in 636 (by decide +kernel) rfl), (gt_in 637 (by decide +kernel) rfl), (gt_in 638 (by decide +kernel) rfl)⟩
theorem lk_X7_180 : LkV RX7 180 yX7_caseAt cX7_caseAt 2 (some (.object "ModeratorsBench$Case")) 1 := ⟨lb_X7_caseAt, (gt_in 640 (by decide +kernel) rfl), (gt_in 642 (by decide +kernel) rfl), (gt_in 24 (by decide +kernel) rfl)⟩
theorem lk_X7_183 : LkV RX7 183 yX7_giftOf cX7_giftOf 5 (some .int) 2 := ⟨lb_X7_giftOf, (gt_in 644 (by decide +kernel) rfl), (gt_in 646 (by decide +kernel) rfl), (gt_in 25 (by decide +kernel) rfl)⟩
theorem lk_X7_200 : LkV RX7 200 yX7_settle cX7_settle 3 none 1 := ⟨lb_X7_settle, (gt_in 653 (by decide +kernel) rfl), (gt_in 655 (by decide +kernel) rfl), (gt_in 27 (by decide +kernel) rfl)⟩
theorem lk_X7_261 : LkV RX7 261 yX7_restDoubtedJudges cX7_restDoubtedJudges 6 none 0 := ⟨lb_X7_restDoubtedJudges, (gt_in 678 (by decide +kernel) rfl), (gt_in 680 (by decide +kernel) rfl), (gt_in 33 (by decide +kernel) rfl)⟩
theorem lk_X7_210 : LkV RX7 210 yX7_askedOf cX7_askedOf 4 (some .int) 1 := ⟨lb_X7_askedOf, (gt_in 682 (by decide +kernel) rfl), (gt_in 684 (by decide +kernel) rfl), (gt_in 34 (by decide +kernel) rfl)⟩
theorem lk_X2_48 : LkV RX2 48 yX2_hasVoter cX2_hasVoter 2 (some .boolean) 1 := ⟨lb_X2_hasVoter, (gt_in 694 (by decide +kernel) rfl), (gt_in 612 (by decide +kernel) rfl), (gt_in 23 (by decide +kernel) rfl)⟩
theorem lk_X2_52 : LkV RX2 52 yX2_findsGuilty cX2_findsGuilty 1 (some .boolean) 0 := ⟨lb_X2_findsGuilty, (gt_in 695 (by decide +kernel) rfl), (gt_in 676 (by decide +kernel) rfl), (gt_in 32 (by decide +kernel) rfl)⟩
theorem lk_X7_214 : LkV RX7 214 yX7_stoodAlone cX7_stoodAlone 4 (some .int) 1 := ⟨lb_X7_stoodAlone, (gt_in 696 (by decide +kernel) rfl), (gt_in 698 (by decide +kernel) rfl), (gt_in 37 (by decide +kernel) rfl)⟩
theorem lk_L_74 : LkV RL 74 yX7_may cX7_may 5 (some .int) 2 := ⟨lb_X7_may, (gt_in 700 (by decide +kernel) rfl), (gt_in 701 (by decide +kernel) rfl), (gt_in 702 (by decide +kernel) rfl)⟩
theorem lk_L_78 : LkV RL 78 yX7_told cX7_told 4 (some .int) 2 := ⟨lb_X7_told, (gt_in 704 (by decide +kernel) rfl), (gt_in 705 (by decide +kernel) rfl), (gt_in 706 (by decide +kernel) rfl)⟩
theorem lk_L_82 : LkV RL 82 yX7_about cX7_about 4 (some .int) 2 := ⟨lb_X7_about, (gt_in 708 (by decide +kernel) rfl), (gt_in 709 (by decide +kernel) rfl), (gt_in 710 (by decide +kernel) rfl)⟩
theorem lk_X7_237 : LkV RX7 237 yX7_lateBy cX7_lateBy 2 (some .int) 1 := ⟨lb_X7_lateBy, (gt_in 713 (by decide +kernel) rfl), (gt_in 715 (by decide +kernel) rfl), (gt_in 38 (by decide +kernel) rfl)⟩
theorem lk_X7_361 : LkS RX7 361 yJ9_max_7cf53 cJ9_max_7cf53 2 (some .int) 2 := ⟨lb_J9_max_7cf53, (gt_in 717 (by decide +kernel) rfl), (gt_in 354 (by decide +kernel) rfl)⟩
theorem lk_L_86 : LkV RL 86 yX7_judged cX7_judged 5 (some .int) 2 := ⟨lb_X7_judged, (gt_in 723 (by decide +kernel) rfl), (gt_in 724 (by decide +kernel) rfl), (gt_in 725 (by decide +kernel) rfl)⟩
theorem lk_L_90 : LkV RL 90 yX7_appeal cX7_appeal 3 (some .int) 1 := ⟨lb_X7_appeal, (gt_in 731 (by decide +kernel) rfl), (gt_in 732 (by decide +kernel) rfl), (gt_in 733 (by decide +kernel) rfl)⟩
theorem lk_X0_96 : LkS RX0 96 yJ9_min_7cf53 cJ9_min_7cf53 2 (some .int) 2 := ⟨lb_J9_min_7cf53, (gt_in 739 (by decide +kernel) rfl), (gt_in 384 (by decide +kernel) rfl)⟩
theorem lk_L_94 : LkV RL 94 yX7_known cX7_known 5 (some .int) 2 := ⟨lb_X7_known, (gt_in 740 (by decide +kernel) rfl), (gt_in 741 (by decide +kernel) rfl), (gt_in 742 (by decide +kernel) rfl)⟩
theorem lk_L_98 : LkV RL 98 yX7_late cX7_late 5 (some .int) 0 := ⟨lb_X7_late, (gt_in 744 (by decide +kernel) rfl), (gt_in 745 (by decide +kernel) rfl), (gt_in 746 (by decide +kernel) rfl)⟩
theorem lk_L_102 : LkV RL 102 yX7_like cX7_like 4 (some .int) 2 := ⟨lb_X7_like, (gt_in 748 (by decide +kernel) rfl), (gt_in 749 (by decide +kernel) rfl), (gt_in 750 (by decide +kernel) rfl)⟩
theorem lk_X7_264 : LkV RX7 264 yX7_alike cX7_alike 7 (some .int) 3 := ⟨lb_X7_alike, (gt_in 752 (by decide +kernel) rfl), (gt_in 754 (by decide +kernel) rfl), (gt_in 42 (by decide +kernel) rfl)⟩
theorem lk_X0_113 : LkV RX0 113 yX0_isUndecided cX0_isUndecided 1 (some .boolean) 0 := ⟨lb_X0_isUndecided, (gt_in 760 (by decide +kernel) rfl), (gt_in 569 (by decide +kernel) rfl), (gt_in 14 (by decide +kernel) rfl)⟩
theorem lk_L_106 : LkV RL 106 yX7_unlike cX7_unlike 6 (some .int) 2 := ⟨lb_X7_unlike, (gt_in 765 (by decide +kernel) rfl), (gt_in 766 (by decide +kernel) rfl), (gt_in 767 (by decide +kernel) rfl)⟩
theorem lk_X7_268 : LkS RX7 268 yJ9_min_7cf53 cJ9_min_7cf53 2 (some .int) 2 := ⟨lb_J9_min_7cf53, (gt_in 769 (by decide +kernel) rfl), (gt_in 384 (by decide +kernel) rfl)⟩
theorem lk_L_110 : LkV RL 110 yX7_writer cX7_writer 3 (some .int) 2 := ⟨lb_X7_writer, (gt_in 770 (by decide +kernel) rfl), (gt_in 771 (by decide +kernel) rfl), (gt_in 772 (by decide +kernel) rfl)⟩
theorem lk_X7_274 : LkV RX7 274 yX7_climbLadder cX7_climbLadder 6 none 2 := ⟨lb_X7_climbLadder, (gt_in 774 (by decide +kernel) rfl), (gt_in 776 (by decide +kernel) rfl), (gt_in 45 (by decide +kernel) rfl)⟩
theorem lk_X0_60 : LkV RX0 60 yX0_guiltStands cX0_guiltStands 1 (some .boolean) 0 := ⟨lb_X0_guiltStands, (gt_in 786 (by decide +kernel) rfl), (gt_in 763 (by decide +kernel) rfl), (gt_in 44 (by decide +kernel) rfl)⟩
theorem lk_X4_38 : LkV RX4 38 yX4_holdingAt cX4_holdingAt 2 (some .int) 1 := ⟨lb_X4_holdingAt, (gt_in 791 (by decide +kernel) rfl), (gt_in 793 (by decide +kernel) rfl), (gt_in 49 (by decide +kernel) rfl)⟩
theorem lk_X4_42 : LkS RX4 42 yJ9_min_7cf53 cJ9_min_7cf53 2 (some .int) 2 := ⟨lb_J9_min_7cf53, (gt_in 795 (by decide +kernel) rfl), (gt_in 384 (by decide +kernel) rfl)⟩
theorem lk_X7_288 : LkV RX7 288 yX7_timesWarned cX7_timesWarned 5 (some .int) 1 := ⟨lb_X7_timesWarned, (gt_in 797 (by decide +kernel) rfl), (gt_in 799 (by decide +kernel) rfl), (gt_in 50 (by decide +kernel) rfl)⟩
theorem lk_X7_291 : LkV RX7 291 yX7_postsOf cX7_postsOf 6 (some .int) 2 := ⟨lb_X7_postsOf, (gt_in 801 (by decide +kernel) rfl), (gt_in 803 (by decide +kernel) rfl), (gt_in 51 (by decide +kernel) rfl)⟩
theorem lk_L_114 : LkV RL 114 yX7_level cX7_level 3 (some .int) 1 := ⟨lb_X7_level, (gt_in 810 (by decide +kernel) rfl), (gt_in 811 (by decide +kernel) rfl), (gt_in 812 (by decide +kernel) rfl)⟩
theorem lk_L_118 : LkV RL 118 yX7_hidden cX7_hidden 3 (some .int) 1 := ⟨lb_X7_hidden, (gt_in 814 (by decide +kernel) rfl), (gt_in 815 (by decide +kernel) rfl), (gt_in 816 (by decide +kernel) rfl)⟩
theorem lk_L_122 : LkV RL 122 yX7_count cX7_count 2 (some .int) 1 := ⟨lb_X7_count, (gt_in 818 (by decide +kernel) rfl), (gt_in 819 (by decide +kernel) rfl), (gt_in 820 (by decide +kernel) rfl)⟩
theorem lk_X7_307 : LkV RX7 307 yX7_undecidedCases cX7_undecidedCases 3 (some .int) 0 := ⟨lb_X7_undecidedCases, (gt_in 822 (by decide +kernel) rfl), (gt_in 824 (by decide +kernel) rfl), (gt_in 53 (by decide +kernel) rfl)⟩
theorem lk_L_126 : LkV RL 126 yX7_check cX7_check 8 (some .int) 0 := ⟨lb_X7_check, (gt_in 826 (by decide +kernel) rfl), (gt_in 827 (by decide +kernel) rfl), (gt_in 828 (by decide +kernel) rfl)⟩
theorem lk_L_12 : LkI RL 12 yX8_init cX8_init 2 0 := ⟨lb_X8_init, (gt_in 840 (by decide +kernel) rfl), (gt_in 841 (by decide +kernel) rfl), rfl⟩
theorem lk_L_17 : LkV RL 17 yX8_tick cX8_tick 2 (some .int) 1 := ⟨lb_X8_tick, (gt_in 988 (by decide +kernel) rfl), (gt_in 989 (by decide +kernel) rfl), (gt_in 990 (by decide +kernel) rfl)⟩
theorem lk_X8_136 : LkS RX8 136 yX8_within cX8_within 3 (some .boolean) 3 := ⟨lb_X8_within, (gt_in 992 (by decide +kernel) rfl), (gt_in 993 (by decide +kernel) rfl)⟩
theorem lk_L_22 : LkV RL 22 yX8_rule cX8_rule 5 (some .int) 4 := ⟨lb_X8_rule, (gt_in 996 (by decide +kernel) rfl), (gt_in 997 (by decide +kernel) rfl), (gt_in 998 (by decide +kernel) rfl)⟩
theorem lk_L_27 : LkV RL 27 yX8_ladder cX8_ladder 3 (some .int) 2 := ⟨lb_X8_ladder, (gt_in 1000 (by decide +kernel) rfl), (gt_in 1001 (by decide +kernel) rfl), (gt_in 1002 (by decide +kernel) rfl)⟩
theorem lk_L_31 : LkV RL 31 yX8_due cX8_due 4 (some .int) 2 := ⟨lb_X8_due, (gt_in 1004 (by decide +kernel) rfl), (gt_in 1005 (by decide +kernel) rfl), (gt_in 1006 (by decide +kernel) rfl)⟩
theorem lk_L_35 : LkV RL 35 yX8_limit cX8_limit 3 (some .int) 1 := ⟨lb_X8_limit, (gt_in 1008 (by decide +kernel) rfl), (gt_in 1009 (by decide +kernel) rfl), (gt_in 1010 (by decide +kernel) rfl)⟩
theorem lk_L_40 : LkV RL 40 yX8_post cX8_post 4 (some .int) 3 := ⟨lb_X8_post, (gt_in 1012 (by decide +kernel) rfl), (gt_in 1013 (by decide +kernel) rfl), (gt_in 1014 (by decide +kernel) rfl)⟩
theorem lk_L_44 : LkV RL 44 yX8_complain cX8_complain 4 (some .int) 2 := ⟨lb_X8_complain, (gt_in 1016 (by decide +kernel) rfl), (gt_in 1017 (by decide +kernel) rfl), (gt_in 1018 (by decide +kernel) rfl)⟩
theorem lk_L_48 : LkV RL 48 yX8_judge cX8_judge 5 (some .int) 4 := ⟨lb_X8_judge, (gt_in 1020 (by decide +kernel) rfl), (gt_in 1021 (by decide +kernel) rfl), (gt_in 1022 (by decide +kernel) rfl)⟩
theorem lk_X8_147 : LkS RX8 147 yX8_isJudge cX8_isJudge 1 (some .boolean) 1 := ⟨lb_X8_isJudge, (gt_in 1024 (by decide +kernel) rfl), (gt_in 1025 (by decide +kernel) rfl)⟩
theorem lk_L_52 : LkV RL 52 yX8_kin cX8_kin 5 (some .int) 3 := ⟨lb_X8_kin, (gt_in 1027 (by decide +kernel) rfl), (gt_in 1028 (by decide +kernel) rfl), (gt_in 1029 (by decide +kernel) rfl)⟩
theorem lk_L_56 : LkV RL 56 yX8_rest cX8_rest 4 (some .int) 2 := ⟨lb_X8_rest, (gt_in 1032 (by decide +kernel) rfl), (gt_in 1033 (by decide +kernel) rfl), (gt_in 1034 (by decide +kernel) rfl)⟩
theorem lk_X8_156 : LkV RX8 156 yX8_giveBack cX8_giveBack 4 none 1 := ⟨lb_X8_giveBack, (gt_in 1036 (by decide +kernel) rfl), (gt_in 1038 (by decide +kernel) rfl), (gt_in 56 (by decide +kernel) rfl)⟩
theorem lk_L_60 : LkV RL 60 yX8_next cX8_next 2 (some .int) 1 := ⟨lb_X8_next, (gt_in 1040 (by decide +kernel) rfl), (gt_in 1041 (by decide +kernel) rfl), (gt_in 1042 (by decide +kernel) rfl)⟩
theorem lk_X8_181 : LkV RX8 181 yX8_nextOf cX8_nextOf 4 (some .int) 1 := ⟨lb_X8_nextOf, (gt_in 1044 (by decide +kernel) rfl), (gt_in 1046 (by decide +kernel) rfl), (gt_in 57 (by decide +kernel) rfl)⟩
theorem lk_X8_177 : LkV RX8 177 yX8_mayHave cX8_mayHave 4 (some .boolean) 2 := ⟨lb_X8_mayHave, (gt_in 1048 (by decide +kernel) rfl), (gt_in 1050 (by decide +kernel) rfl), (gt_in 58 (by decide +kernel) rfl)⟩
theorem lk_X8_167 : LkV RX8 167 yX8_isAsking cX8_isAsking 2 (some .boolean) 1 := ⟨lb_X8_isAsking, (gt_in 1052 (by decide +kernel) rfl), (gt_in 1054 (by decide +kernel) rfl), (gt_in 59 (by decide +kernel) rfl)⟩
theorem lk_X8_170 : LkV RX8 170 yX8_giftsOf cX8_giftsOf 5 (some .int) 2 := ⟨lb_X8_giftsOf, (gt_in 1056 (by decide +kernel) rfl), (gt_in 1058 (by decide +kernel) rfl), (gt_in 60 (by decide +kernel) rfl)⟩
theorem lk_X8_174 : LkV RX8 174 yX8_votesOf cX8_votesOf 4 (some .int) 1 := ⟨lb_X8_votesOf, (gt_in 1060 (by decide +kernel) rfl), (gt_in 1062 (by decide +kernel) rfl), (gt_in 61 (by decide +kernel) rfl)⟩
theorem lk_X8_163 : LkV RX8 163 yX8_timeOf cX8_timeOf 2 (some .int) 1 := ⟨lb_X8_timeOf, (gt_in 1064 (by decide +kernel) rfl), (gt_in 1066 (by decide +kernel) rfl), (gt_in 62 (by decide +kernel) rfl)⟩
theorem lk_L_64 : LkV RL 64 yX8_give cX8_give 3 (some .int) 1 := ⟨lb_X8_give, (gt_in 1068 (by decide +kernel) rfl), (gt_in 1069 (by decide +kernel) rfl), (gt_in 1070 (by decide +kernel) rfl)⟩
theorem lk_L_69 : LkV RL 69 yX8_undo cX8_undo 1 (some .int) 0 := ⟨lb_X8_undo, (gt_in 1072 (by decide +kernel) rfl), (gt_in 1073 (by decide +kernel) rfl), (gt_in 1074 (by decide +kernel) rfl)⟩
theorem lk_L_77 : LkV RL 77 yX8_may cX8_may 3 (some .int) 2 := ⟨lb_X8_may, (gt_in 1076 (by decide +kernel) rfl), (gt_in 1077 (by decide +kernel) rfl), (gt_in 1078 (by decide +kernel) rfl)⟩
theorem lk_X8_184 : LkV RX8 184 yX8_isCase cX8_isCase 2 (some .boolean) 1 := ⟨lb_X8_isCase, (gt_in 1080 (by decide +kernel) rfl), (gt_in 1082 (by decide +kernel) rfl), (gt_in 63 (by decide +kernel) rfl)⟩
theorem lk_L_73 : LkV RL 73 yX8_vote cX8_vote 6 (some .int) 3 := ⟨lb_X8_vote, (gt_in 1084 (by decide +kernel) rfl), (gt_in 1085 (by decide +kernel) rfl), (gt_in 1086 (by decide +kernel) rfl)⟩
theorem lk_X8_194 : LkV RX8 194 yX8_settle cX8_settle 6 none 1 := ⟨lb_X8_settle, (gt_in 1088 (by decide +kernel) rfl), (gt_in 1090 (by decide +kernel) rfl), (gt_in 64 (by decide +kernel) rfl)⟩
theorem lk_X8_200 : LkV RX8 200 yX8_lookAtJudges cX8_lookAtJudges 3 none 0 := ⟨lb_X8_lookAtJudges, (gt_in 1092 (by decide +kernel) rfl), (gt_in 1094 (by decide +kernel) rfl), (gt_in 65 (by decide +kernel) rfl)⟩
theorem lk_X8_190 : LkV RX8 190 yX8_doubt cX8_doubt 6 (some .int) 2 := ⟨lb_X8_doubt, (gt_in 1096 (by decide +kernel) rfl), (gt_in 1098 (by decide +kernel) rfl), (gt_in 66 (by decide +kernel) rfl)⟩
theorem lk_X8_187 : LkV RX8 187 yX8_against cX8_against 3 (some .int) 1 := ⟨lb_X8_against, (gt_in 1100 (by decide +kernel) rfl), (gt_in 1102 (by decide +kernel) rfl), (gt_in 67 (by decide +kernel) rfl)⟩
theorem lk_L_81 : LkV RL 81 yX8_told cX8_told 5 (some .int) 2 := ⟨lb_X8_told, (gt_in 1104 (by decide +kernel) rfl), (gt_in 1105 (by decide +kernel) rfl), (gt_in 1106 (by decide +kernel) rfl)⟩
theorem lk_L_85 : LkV RL 85 yX8_about cX8_about 3 (some .int) 2 := ⟨lb_X8_about, (gt_in 1108 (by decide +kernel) rfl), (gt_in 1109 (by decide +kernel) rfl), (gt_in 1110 (by decide +kernel) rfl)⟩
theorem lk_X8_203 : LkV RX8 203 yX8_lateBy cX8_lateBy 3 (some .int) 1 := ⟨lb_X8_lateBy, (gt_in 1112 (by decide +kernel) rfl), (gt_in 1114 (by decide +kernel) rfl), (gt_in 68 (by decide +kernel) rfl)⟩
theorem lk_L_89 : LkV RL 89 yX8_judged cX8_judged 3 (some .int) 2 := ⟨lb_X8_judged, (gt_in 1116 (by decide +kernel) rfl), (gt_in 1117 (by decide +kernel) rfl), (gt_in 1118 (by decide +kernel) rfl)⟩
theorem lk_L_93 : LkV RL 93 yX8_appeal cX8_appeal 2 (some .int) 1 := ⟨lb_X8_appeal, (gt_in 1120 (by decide +kernel) rfl), (gt_in 1121 (by decide +kernel) rfl), (gt_in 1122 (by decide +kernel) rfl)⟩
theorem lk_L_97 : LkV RL 97 yX8_known cX8_known 4 (some .int) 2 := ⟨lb_X8_known, (gt_in 1124 (by decide +kernel) rfl), (gt_in 1125 (by decide +kernel) rfl), (gt_in 1126 (by decide +kernel) rfl)⟩
theorem lk_L_101 : LkV RL 101 yX8_late cX8_late 3 (some .int) 0 := ⟨lb_X8_late, (gt_in 1128 (by decide +kernel) rfl), (gt_in 1129 (by decide +kernel) rfl), (gt_in 1130 (by decide +kernel) rfl)⟩
theorem lk_L_105 : LkV RL 105 yX8_like cX8_like 3 (some .int) 2 := ⟨lb_X8_like, (gt_in 1132 (by decide +kernel) rfl), (gt_in 1133 (by decide +kernel) rfl), (gt_in 1134 (by decide +kernel) rfl)⟩
theorem lk_X8_206 : LkV RX8 206 yX8_likeOnes cX8_likeOnes 11 (some .int) 3 := ⟨lb_X8_likeOnes, (gt_in 1136 (by decide +kernel) rfl), (gt_in 1138 (by decide +kernel) rfl), (gt_in 69 (by decide +kernel) rfl)⟩
theorem lk_L_109 : LkV RL 109 yX8_unlike cX8_unlike 5 (some .int) 2 := ⟨lb_X8_unlike, (gt_in 1140 (by decide +kernel) rfl), (gt_in 1141 (by decide +kernel) rfl), (gt_in 1142 (by decide +kernel) rfl)⟩
theorem lk_L_113 : LkV RL 113 yX8_writer cX8_writer 10 (some .int) 2 := ⟨lb_X8_writer, (gt_in 1144 (by decide +kernel) rfl), (gt_in 1145 (by decide +kernel) rfl), (gt_in 1146 (by decide +kernel) rfl)⟩
theorem lk_X8_216 : LkV RX8 216 yX8_findStrikes cX8_findStrikes 6 none 1 := ⟨lb_X8_findStrikes, (gt_in 1148 (by decide +kernel) rfl), (gt_in 1150 (by decide +kernel) rfl), (gt_in 70 (by decide +kernel) rfl)⟩
theorem lk_X8_213 : LkV RX8 213 yX8_stands cX8_stands 2 (some .boolean) 1 := ⟨lb_X8_stands, (gt_in 1152 (by decide +kernel) rfl), (gt_in 1154 (by decide +kernel) rfl), (gt_in 71 (by decide +kernel) rfl)⟩
theorem lk_X8_219 : LkV RX8 219 yX8_isHidden cX8_isHidden 4 (some .boolean) 1 := ⟨lb_X8_isHidden, (gt_in 1156 (by decide +kernel) rfl), (gt_in 1158 (by decide +kernel) rfl), (gt_in 72 (by decide +kernel) rfl)⟩
theorem lk_L_117 : LkV RL 117 yX8_level cX8_level 3 (some .int) 1 := ⟨lb_X8_level, (gt_in 1160 (by decide +kernel) rfl), (gt_in 1161 (by decide +kernel) rfl), (gt_in 1162 (by decide +kernel) rfl)⟩
theorem lk_L_121 : LkV RL 121 yX8_hidden cX8_hidden 2 (some .int) 1 := ⟨lb_X8_hidden, (gt_in 1164 (by decide +kernel) rfl), (gt_in 1165 (by decide +kernel) rfl), (gt_in 1166 (by decide +kernel) rfl)⟩
theorem lk_L_125 : LkV RL 125 yX8_count cX8_count 4 (some .int) 1 := ⟨lb_X8_count, (gt_in 1168 (by decide +kernel) rfl), (gt_in 1169 (by decide +kernel) rfl), (gt_in 1170 (by decide +kernel) rfl)⟩
theorem lk_L_129 : LkV RL 129 yX8_check cX8_check 6 (some .int) 0 := ⟨lb_X8_check, (gt_in 1172 (by decide +kernel) rfl), (gt_in 1173 (by decide +kernel) rfl), (gt_in 1174 (by decide +kernel) rfl)⟩
theorem lk_X7_40 : LkIN RX7 40 yX4_init "ModeratorsBench" cX4_init 1 0 := ⟨lb_X4_init, (List.mem_of_getElem? (i := 133) (by decide +kernel)), (gt_in 134 (by decide +kernel) rfl), rfl⟩
theorem lk_X7_55 : LkIN RX7 55 yX6_init "ModeratorsBench" cX6_init 2 1 := ⟨lb_X6_init, (List.mem_of_getElem? (i := 169) (by decide +kernel)), (gt_in 170 (by decide +kernel) rfl), rfl⟩
theorem lk_X7_58 : LkIN RX7 58 yX3_init "ModeratorsBench" cX3_init 2 1 := ⟨lb_X3_init, (List.mem_of_getElem? (i := 194) (by decide +kernel)), (gt_in 195 (by decide +kernel) rfl), rfl⟩
theorem lk_X7_89 : LkIN RX7 89 yX5_init "ModeratorsBench" cX5_init 6 5 := ⟨lb_X5_init, (List.mem_of_getElem? (i := 302) (by decide +kernel)), (gt_in 303 (by decide +kernel) rfl), rfl⟩
theorem lk_X7_100 : LkVN RX7 100 yX5_caseUnder "ModeratorsBench" cX5_caseUnder 3 (some (.object "ModeratorsBench$Case")) 1 := ⟨lb_X5_caseUnder, (List.mem_of_getElem? (i := 413) (by decide +kernel)), (gt_in 415 (by decide +kernel) rfl), (gt_in 5 (by decide +kernel) rfl)⟩
theorem lk_X7_112 : LkIN RX7 112 yX0_init "ModeratorsBench" cX0_init 5 4 := ⟨lb_X0_init, (List.mem_of_getElem? (i := 419) (by decide +kernel)), (gt_in 420 (by decide +kernel) rfl), rfl⟩
theorem lk_X0_51 : LkIN RX0 51 yX2_init "ModeratorsBench" cX2_init 2 1 := ⟨lb_X2_init, (List.mem_of_getElem? (i := 425) (by decide +kernel)), (gt_in 426 (by decide +kernel) rfl), rfl⟩
theorem lk_X7_115 : LkVN RX7 115 yX5_addCase "ModeratorsBench" cX5_addCase 2 none 1 := ⟨lb_X5_addCase, (List.mem_of_getElem? (i := 506) (by decide +kernel)), (gt_in 508 (by decide +kernel) rfl), (gt_in 6 (by decide +kernel) rfl)⟩
theorem lk_X7_132 : LkVN RX7 132 yX3_isKinOf "ModeratorsBench" cX3_isKinOf 2 (some .boolean) 1 := ⟨lb_X3_isKinOf, (List.mem_of_getElem? (i := 522) (by decide +kernel)), (gt_in 524 (by decide +kernel) rfl), (gt_in 8 (by decide +kernel) rfl)⟩
theorem lk_X7_140 : LkVN RX7 140 yX3_setKin "ModeratorsBench" cX3_setKin 3 none 2 := ⟨lb_X3_setKin, (List.mem_of_getElem? (i := 529) (by decide +kernel)), (gt_in 531 (by decide +kernel) rfl), (gt_in 9 (by decide +kernel) rfl)⟩
theorem lk_X7_227 : LkVN RX7 227 yX0_isUndecided "ModeratorsBench" cX0_isUndecided 1 (some .boolean) 0 := ⟨lb_X0_isUndecided, (List.mem_of_getElem? (i := 567) (by decide +kernel)), (gt_in 569 (by decide +kernel) rfl), (gt_in 14 (by decide +kernel) rfl)⟩
theorem lk_X7_316 : LkVN RX7 316 yX0_wantsJudges "ModeratorsBench" cX0_wantsJudges 1 (some .boolean) 0 := ⟨lb_X0_wantsJudges, (List.mem_of_getElem? (i := 571) (by decide +kernel)), (gt_in 573 (by decide +kernel) rfl), (gt_in 15 (by decide +kernel) rfl)⟩
theorem lk_X0_80 : LkVN RX0 80 yX2_votes "ModeratorsBench" cX2_votes 1 (some .int) 0 := ⟨lb_X2_votes, (List.mem_of_getElem? (i := 579) (by decide +kernel)), (gt_in 581 (by decide +kernel) rfl), (gt_in 17 (by decide +kernel) rfl)⟩
theorem lk_X7_319 : LkVN RX7 319 yX3_isFree "ModeratorsBench" cX3_isFree 1 (some .boolean) 0 := ⟨lb_X3_isFree, (List.mem_of_getElem? (i := 594) (by decide +kernel)), (gt_in 596 (by decide +kernel) rfl), (gt_in 19 (by decide +kernel) rfl)⟩
theorem lk_X7_322 : LkVN RX7 322 yX3_isSkilledIn "ModeratorsBench" cX3_isSkilledIn 2 (some .boolean) 1 := ⟨lb_X3_isSkilledIn, (List.mem_of_getElem? (i := 598) (by decide +kernel)), (gt_in 600 (by decide +kernel) rfl), (gt_in 20 (by decide +kernel) rfl)⟩
theorem lk_X7_325 : LkVN RX7 325 yX0_isHeldBy "ModeratorsBench" cX0_isHeldBy 2 (some .boolean) 1 := ⟨lb_X0_isHeldBy, (List.mem_of_getElem? (i := 602) (by decide +kernel)), (gt_in 604 (by decide +kernel) rfl), (gt_in 21 (by decide +kernel) rfl)⟩
theorem lk_X7_329 : LkVN RX7 329 yX0_hasVoteOf "ModeratorsBench" cX0_hasVoteOf 2 (some .boolean) 1 := ⟨lb_X0_hasVoteOf, (List.mem_of_getElem? (i := 606) (by decide +kernel)), (gt_in 608 (by decide +kernel) rfl), (gt_in 22 (by decide +kernel) rfl)⟩
theorem lk_X0_92 : LkVN RX0 92 yX2_hasVoter "ModeratorsBench" cX2_hasVoter 2 (some .boolean) 1 := ⟨lb_X2_hasVoter, (List.mem_of_getElem? (i := 610) (by decide +kernel)), (gt_in 612 (by decide +kernel) rfl), (gt_in 23 (by decide +kernel) rfl)⟩
theorem lk_X7_158 : LkIN RX7 158 yX1_init "ModeratorsBench" cX1_init 3 2 := ⟨lb_X1_init, (List.mem_of_getElem? (i := 619) (by decide +kernel)), (gt_in 620 (by decide +kernel) rfl), rfl⟩
theorem lk_X7_190 : LkVN RX7 190 yX0_hearing "ModeratorsBench" cX0_hearing 1 (some (.object "ModeratorsBench$Hearing")) 0 := ⟨lb_X0_hearing, (List.mem_of_getElem? (i := 648) (by decide +kernel)), (gt_in 577 (by decide +kernel) rfl), (gt_in 16 (by decide +kernel) rfl)⟩
theorem lk_X7_194 : LkVN RX7 194 yX2_cast "ModeratorsBench" cX2_cast 3 none 2 := ⟨lb_X2_cast, (List.mem_of_getElem? (i := 649) (by decide +kernel)), (gt_in 651 (by decide +kernel) rfl), (gt_in 26 (by decide +kernel) rfl)⟩
theorem lk_X7_247 : LkVN RX7 247 yX2_votes "ModeratorsBench" cX2_votes 1 (some .int) 0 := ⟨lb_X2_votes, (List.mem_of_getElem? (i := 657) (by decide +kernel)), (gt_in 581 (by decide +kernel) rfl), (gt_in 17 (by decide +kernel) rfl)⟩
theorem lk_X7_342 : LkVN RX7 342 yX2_isAgreed "ModeratorsBench" cX2_isAgreed 2 (some .boolean) 0 := ⟨lb_X2_isAgreed, (List.mem_of_getElem? (i := 658) (by decide +kernel)), (gt_in 660 (by decide +kernel) rfl), (gt_in 28 (by decide +kernel) rfl)⟩
theorem lk_X7_345 : LkVN RX7 345 yX2_mayAskMore "ModeratorsBench" cX2_mayAskMore 1 (some .boolean) 0 := ⟨lb_X2_mayAskMore, (List.mem_of_getElem? (i := 662) (by decide +kernel)), (gt_in 664 (by decide +kernel) rfl), (gt_in 29 (by decide +kernel) rfl)⟩
theorem lk_X7_348 : LkVN RX7 348 yX2_askMore "ModeratorsBench" cX2_askMore 1 none 0 := ⟨lb_X2_askMore, (List.mem_of_getElem? (i := 666) (by decide +kernel)), (gt_in 668 (by decide +kernel) rfl), (gt_in 30 (by decide +kernel) rfl)⟩
theorem lk_X7_351 : LkVN RX7 351 yX0_close "ModeratorsBench" cX0_close 2 none 0 := ⟨lb_X0_close, (List.mem_of_getElem? (i := 670) (by decide +kernel)), (gt_in 672 (by decide +kernel) rfl), (gt_in 31 (by decide +kernel) rfl)⟩
theorem lk_X0_106 : LkVN RX0 106 yX2_findsGuilty "ModeratorsBench" cX2_findsGuilty 1 (some .boolean) 0 := ⟨lb_X2_findsGuilty, (List.mem_of_getElem? (i := 674) (by decide +kernel)), (gt_in 676 (by decide +kernel) rfl), (gt_in 32 (by decide +kernel) rfl)⟩
theorem lk_X7_354 : LkVN RX7 354 yX0_standOf "ModeratorsBench" cX0_standOf 3 (some .int) 1 := ⟨lb_X0_standOf, (List.mem_of_getElem? (i := 686) (by decide +kernel)), (gt_in 688 (by decide +kernel) rfl), (gt_in 35 (by decide +kernel) rfl)⟩
theorem lk_X0_121 : LkVN RX0 121 yX2_standAgainst "ModeratorsBench" cX2_standAgainst 5 (some .int) 2 := ⟨lb_X2_standAgainst, (List.mem_of_getElem? (i := 690) (by decide +kernel)), (gt_in 692 (by decide +kernel) rfl), (gt_in 36 (by decide +kernel) rfl)⟩
theorem lk_X7_234 : LkVN RX7 234 yX0_giftsOut "ModeratorsBench" cX0_giftsOut 1 (some .int) 0 := ⟨lb_X0_giftsOut, (List.mem_of_getElem? (i := 712) (by decide +kernel)), (gt_in 591 (by decide +kernel) rfl), (gt_in 18 (by decide +kernel) rfl)⟩
theorem lk_X7_241 : LkVN RX7 241 yX0_timesJudged "ModeratorsBench" cX0_timesJudged 1 (some .int) 0 := ⟨lb_X0_timesJudged, (List.mem_of_getElem? (i := 718) (by decide +kernel)), (gt_in 720 (by decide +kernel) rfl), (gt_in 39 (by decide +kernel) rfl)⟩
theorem lk_X0_109 : LkSN RX0 109 yX7_asNumber "ModeratorsBench" cX7_asNumber 1 (some .int) 1 := ⟨lb_X7_asNumber, (List.mem_of_getElem? (i := 722) (by decide +kernel)), (gt_in 527 (by decide +kernel) rfl)⟩
theorem lk_X7_244 : LkVN RX7 244 yX0_latestJudgement "ModeratorsBench" cX0_latestJudgement 1 (some (.object "ModeratorsBench$Hearing")) 0 := ⟨lb_X0_latestJudgement, (List.mem_of_getElem? (i := 727) (by decide +kernel)), (gt_in 729 (by decide +kernel) rfl), (gt_in 40 (by decide +kernel) rfl)⟩
theorem lk_X7_255 : LkVN RX7 255 yX0_hearAgain "ModeratorsBench" cX0_hearAgain 2 none 1 := ⟨lb_X0_hearAgain, (List.mem_of_getElem? (i := 735) (by decide +kernel)), (gt_in 737 (by decide +kernel) rfl), (gt_in 41 (by decide +kernel) rfl)⟩
theorem lk_X7_364 : LkVN RX7 364 yX0_isAlike "ModeratorsBench" cX0_isAlike 3 (some .boolean) 2 := ⟨lb_X0_isAlike, (List.mem_of_getElem? (i := 756) (by decide +kernel)), (gt_in 758 (by decide +kernel) rfl), (gt_in 43 (by decide +kernel) rfl)⟩
theorem lk_X7_368 : LkVN RX7 368 yX0_guiltStands "ModeratorsBench" cX0_guiltStands 1 (some .boolean) 0 := ⟨lb_X0_guiltStands, (List.mem_of_getElem? (i := 761) (by decide +kernel)), (gt_in 763 (by decide +kernel) rfl), (gt_in 44 (by decide +kernel) rfl)⟩
theorem lk_X7_371 : LkVN RX7 371 yX4_restart "ModeratorsBench" cX4_restart 1 none 0 := ⟨lb_X4_restart, (List.mem_of_getElem? (i := 778) (by decide +kernel)), (gt_in 780 (by decide +kernel) rfl), (gt_in 46 (by decide +kernel) rfl)⟩
theorem lk_X7_295 : LkVN RX7 295 yX0_bringsStrike "ModeratorsBench" cX0_bringsStrike 1 (some .boolean) 0 := ⟨lb_X0_bringsStrike, (List.mem_of_getElem? (i := 782) (by decide +kernel)), (gt_in 784 (by decide +kernel) rfl), (gt_in 47 (by decide +kernel) rfl)⟩
theorem lk_X7_380 : LkVN RX7 380 yX4_climb "ModeratorsBench" cX4_climb 3 none 2 := ⟨lb_X4_climb, (List.mem_of_getElem? (i := 787) (by decide +kernel)), (gt_in 789 (by decide +kernel) rfl), (gt_in 48 (by decide +kernel) rfl)⟩
theorem lk_X7_278 : LkVN RX7 278 yX4_holdingAt "ModeratorsBench" cX4_holdingAt 2 (some .int) 1 := ⟨lb_X4_holdingAt, (List.mem_of_getElem? (i := 796) (by decide +kernel)), (gt_in 793 (by decide +kernel) rfl), (gt_in 49 (by decide +kernel) rfl)⟩
theorem lk_X7_304 : LkVN RX7 304 yX5_isHidden "ModeratorsBench" cX5_isHidden 2 (some .boolean) 0 := ⟨lb_X5_isHidden, (List.mem_of_getElem? (i := 805) (by decide +kernel)), (gt_in 807 (by decide +kernel) rfl), (gt_in 52 (by decide +kernel) rfl)⟩
theorem lk_X5_44 : LkVN RX5 44 yX0_guiltStands "ModeratorsBench" cX0_guiltStands 1 (some .boolean) 0 := ⟨lb_X0_guiltStands, (List.mem_of_getElem? (i := 809) (by decide +kernel)), (gt_in 763 (by decide +kernel) rfl), (gt_in 44 (by decide +kernel) rfl)⟩
theorem lk_X7_310 : LkVN RX7 310 yX0_staysWithinAsked "ModeratorsBench" cX0_staysWithinAsked 1 (some .boolean) 0 := ⟨lb_X0_staysWithinAsked, (List.mem_of_getElem? (i := 830) (by decide +kernel)), (gt_in 832 (by decide +kernel) rfl), (gt_in 54 (by decide +kernel) rfl)⟩
theorem lk_X7_313 : LkVN RX7 313 yX0_everyJudgeOnce "ModeratorsBench" cX0_everyJudgeOnce 2 (some .boolean) 0 := ⟨lb_X0_everyJudgeOnce, (List.mem_of_getElem? (i := 834) (by decide +kernel)), (gt_in 836 (by decide +kernel) rfl), (gt_in 55 (by decide +kernel) rfl)⟩
theorem oi_i : Cond.instanceMethod Lib.objectInit ∈ gtbl := (gt_in 99 (by decide +kernel) rfl)
theorem oi_c : Cond.code Lib.objectInit ⟨#[0xb1]⟩ 1 none ∈ gtbl := (gt_in 100 (by decide +kernel) rfl)
theorem oi_X7_1 : Cond.methodLink RX7 1 Lib.objectInit ∈ gtbl := (gt_in 98 (by decide +kernel) rfl)
theorem oi_Jxa1e45_1 : Cond.methodLink RJxa1e45 1 Lib.objectInit ∈ gtbl := (gt_in 116 (by decide +kernel) rfl)
theorem oi_X4_3 : Cond.methodLink RX4 3 Lib.objectInit ∈ gtbl := (gt_in 136 (by decide +kernel) rfl)
theorem oi_X6_1 : Cond.methodLink RX6 1 Lib.objectInit ∈ gtbl := (gt_in 172 (by decide +kernel) rfl)
theorem oi_X3_1 : Cond.methodLink RX3 1 Lib.objectInit ∈ gtbl := (gt_in 197 (by decide +kernel) rfl)
theorem oi_X5_1 : Cond.methodLink RX5 1 Lib.objectInit ∈ gtbl := (gt_in 305 (by decide +kernel) rfl)
theorem oi_X0_3 : Cond.methodLink RX0 3 Lib.objectInit ∈ gtbl := (gt_in 422 (by decide +kernel) rfl)
theorem oi_X2_3 : Cond.methodLink RX2 3 Lib.objectInit ∈ gtbl := (gt_in 428 (by decide +kernel) rfl)
theorem oi_X1_1 : Cond.methodLink RX1 1 Lib.objectInit ∈ gtbl := (gt_in 622 (by decide +kernel) rfl)
theorem oi_X8_1 : Cond.methodLink RX8 1 Lib.objectInit ∈ gtbl := (gt_in 843 (by decide +kernel) rfl)
