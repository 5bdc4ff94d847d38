abbrev cw_LR_init : Cond := .code y_LR_init b_LR_init 1 none
set_option maxRecDepth 100000 in
theorem mc_LR_init : cw_LR_init ∈ tb := tb_t (List.mem_of_getElem? (i := 19) (by rfl)) rfl
abbrev cw_Lv_init : Cond := .code y_Lv_init b_Lv_init 1 none
set_option maxRecDepth 100000 in
theorem mc_Lv_init : cw_Lv_init ∈ tb := tb_t (List.mem_of_getElem? (i := 27) (by rfl)) rfl
abbrev cw_Rp_init : Cond := .code y_Rp_init b_Rp_init 2 none
set_option maxRecDepth 100000 in
theorem mc_Rp_init : cw_Rp_init ∈ tb := tb_t (List.mem_of_getElem? (i := 60) (by rfl)) rfl
abbrev cw_Nd_init : Cond := .code y_Nd_init b_Nd_init 1 none
set_option maxRecDepth 100000 in
theorem mc_Nd_init : cw_Nd_init ∈ tb := tb_t (List.mem_of_getElem? (i := 76) (by rfl)) rfl
abbrev cw_LR_level : Cond := .code y_LR_level b_LR_level 3 (some .int)
set_option maxRecDepth 100000 in
theorem mc_LR_level : cw_LR_level ∈ tb := tb_t (List.mem_of_getElem? (i := 123) (by rfl)) rfl
abbrev cw_Lv_has : Cond := .code y_Lv_has b_Lv_has 2 (some .boolean)
set_option maxRecDepth 100000 in
theorem mc_Lv_has : cw_Lv_has ∈ tb := tb_t (List.mem_of_getElem? (i := 127) (by rfl)) rfl
abbrev cw_Lv_detail : Cond := .code y_Lv_detail b_Lv_detail 3 (some .int)
set_option maxRecDepth 100000 in
theorem mc_Lv_detail : cw_Lv_detail ∈ tb := tb_t (List.mem_of_getElem? (i := 131) (by rfl)) rfl
abbrev cw_LR_value : Cond := .code y_LR_value b_LR_value 4 (some .int)
set_option maxRecDepth 100000 in
theorem mc_LR_value : cw_LR_value ∈ tb := tb_t (List.mem_of_getElem? (i := 135) (by rfl)) rfl
abbrev cw_Lv_valueFor : Cond := .code y_Lv_valueFor b_Lv_valueFor 5 (some .int)
set_option maxRecDepth 100000 in
theorem mc_Lv_valueFor : cw_Lv_valueFor ∈ tb := tb_t (List.mem_of_getElem? (i := 139) (by rfl)) rfl
abbrev cw_Lv_valueOf : Cond := .code y_Lv_valueOf b_Lv_valueOf 5 (some .int)
set_option maxRecDepth 100000 in
theorem mc_Lv_valueOf : cw_Lv_valueOf ∈ tb := tb_t (List.mem_of_getElem? (i := 143) (by rfl)) rfl
abbrev cw_LR_isSolved : Cond := .code y_LR_isSolved b_LR_isSolved 1 (some .boolean)
set_option maxRecDepth 100000 in
theorem mc_LR_isSolved : cw_LR_isSolved ∈ tb := tb_t (List.mem_of_getElem? (i := 150) (by rfl)) rfl
abbrev cw_Nd_areSolved : Cond := .code y_Nd_areSolved b_Nd_areSolved 1 (some .boolean)
set_option maxRecDepth 100000 in
theorem mc_Nd_areSolved : cw_Nd_areSolved ∈ tb := tb_t (List.mem_of_getElem? (i := 154) (by rfl)) rfl
abbrev cw_Nd_keepAll : Cond := .code y_Nd_keepAll b_Nd_keepAll 2 none
set_option maxRecDepth 100000 in
theorem mc_Nd_keepAll : cw_Nd_keepAll ∈ tb := tb_t (List.mem_of_getElem? (i := 158) (by rfl)) rfl
abbrev cw_Nd_canKeptBeSolved : Cond := .code y_Nd_canKeptBeSolved b_Nd_canKeptBeSolved 2 (some .boolean)
set_option maxRecDepth 100000 in
theorem mc_Nd_canKeptBeSolved : cw_Nd_canKeptBeSolved ∈ tb := tb_t (List.mem_of_getElem? (i := 162) (by rfl)) rfl
abbrev cw_Ar_fill : Cond := .code y_Ar_fill b_Ar_fill 4 none
set_option maxRecDepth 100000 in
theorem mc_Ar_fill : cw_Ar_fill ∈ tb := tb_t (List.mem_of_getElem? (i := 165) (by rfl)) rfl
abbrev cw_Nd_raiseNumbers : Cond := .code y_Nd_raiseNumbers b_Nd_raiseNumbers 4 (some .boolean)
set_option maxRecDepth 100000 in
theorem mc_Nd_raiseNumbers : cw_Nd_raiseNumbers ∈ tb := tb_t (List.mem_of_getElem? (i := 169) (by rfl)) rfl
abbrev cw_LR_solution : Cond := .code y_LR_solution b_LR_solution 2 (some .int)
set_option maxRecDepth 100000 in
theorem mc_LR_solution : cw_LR_solution ∈ tb := tb_t (List.mem_of_getElem? (i := 173) (by rfl)) rfl
abbrev cw_Nd_leastNumber : Cond := .code y_Nd_leastNumber b_Nd_leastNumber 2 (some .int)
set_option maxRecDepth 100000 in
theorem mc_Nd_leastNumber : cw_Nd_leastNumber ∈ tb := tb_t (List.mem_of_getElem? (i := 177) (by rfl)) rfl
abbrev cw_Nd_isUnknown : Cond := .code y_Nd_isUnknown b_Nd_isUnknown 2 (some .boolean)
set_option maxRecDepth 100000 in
theorem mc_Nd_isUnknown : cw_Nd_isUnknown ∈ tb := tb_t (List.mem_of_getElem? (i := 181) (by rfl)) rfl
abbrev cw_LR_isClash : Cond := .code y_LR_isClash b_LR_isClash 2 (some .boolean)
set_option maxRecDepth 100000 in
theorem mc_LR_isClash : cw_LR_isClash ∈ tb := tb_t (List.mem_of_getElem? (i := 186) (by rfl)) rfl
abbrev cw_Nd_isInClash : Cond := .code y_Nd_isInClash b_Nd_isInClash 2 (some .boolean)
set_option maxRecDepth 100000 in
theorem mc_Nd_isInClash : cw_Nd_isInClash ∈ tb := tb_t (List.mem_of_getElem? (i := 190) (by rfl)) rfl
abbrev cw_Nd_keepClashOnly : Cond := .code y_Nd_keepClashOnly b_Nd_keepClashOnly 2 none
set_option maxRecDepth 100000 in
theorem mc_Nd_keepClashOnly : cw_Nd_keepClashOnly ∈ tb := tb_t (List.mem_of_getElem? (i := 194) (by rfl)) rfl
abbrev cw_LR_undo : Cond := .code y_LR_undo b_LR_undo 1 (some .boolean)
set_option maxRecDepth 100000 in
theorem mc_LR_undo : cw_LR_undo ∈ tb := tb_t (List.mem_of_getElem? (i := 198) (by rfl)) rfl
abbrev cw_Nd_removeLatest : Cond := .code y_Nd_removeLatest b_Nd_removeLatest 1 (some .boolean)
set_option maxRecDepth 100000 in
theorem mc_Nd_removeLatest : cw_Nd_removeLatest ∈ tb := tb_t (List.mem_of_getElem? (i := 202) (by rfl)) rfl
abbrev cw_Nd_forget : Cond := .code y_Nd_forget b_Nd_forget 1 none
set_option maxRecDepth 100000 in
theorem mc_Nd_forget : cw_Nd_forget ∈ tb := tb_t (List.mem_of_getElem? (i := 206) (by rfl)) rfl
abbrev cw_LR_about : Cond := .code y_LR_about b_LR_about 2 (some .int)
set_option maxRecDepth 100000 in
theorem mc_LR_about : cw_LR_about ∈ tb := tb_t (List.mem_of_getElem? (i := 210) (by rfl)) rfl
abbrev cw_Lv_size : Cond := .code y_Lv_size b_Lv_size 1 (some .int)
set_option maxRecDepth 100000 in
theorem mc_Lv_size : cw_Lv_size ∈ tb := tb_t (List.mem_of_getElem? (i := 214) (by rfl)) rfl
abbrev cw_Nd_unknowns : Cond := .code y_Nd_unknowns b_Nd_unknowns 1 (some .int)
set_option maxRecDepth 100000 in
theorem mc_Nd_unknowns : cw_Nd_unknowns ∈ tb := tb_t (List.mem_of_getElem? (i := 218) (by rfl)) rfl
abbrev cw_Nd_size : Cond := .code y_Nd_size b_Nd_size 1 (some .int)
set_option maxRecDepth 100000 in
theorem mc_Nd_size : cw_Nd_size ∈ tb := tb_t (List.mem_of_getElem? (i := 222) (by rfl)) rfl
abbrev cw_Law_zero : Cond := .codeWith y_Law_zero b_Law_zero 3 (some .int) [(0, 8, 11, 13)]
set_option maxRecDepth 100000 in
theorem mc_Law_zero : cw_Law_zero ∈ tb := tb_t (List.mem_of_getElem? (i := 225) (by rfl)) rfl
abbrev cw_LR_zero : Cond := .code y_LR_zero b_LR_zero 1 (some .int)
set_option maxRecDepth 100000 in
theorem mc_LR_zero : cw_LR_zero ∈ tb := tb_t (List.mem_of_getElem? (i := 230) (by rfl)) rfl
abbrev cw_Lv_made : Cond := .code y_Lv_made b_Lv_made 7 (some .int)
set_option maxRecDepth 100000 in
theorem mc_Lv_made : cw_Lv_made ∈ tb := tb_t (List.mem_of_getElem? (i := 234) (by rfl)) rfl
abbrev cw_Lv_find : Cond := .code y_Lv_find b_Lv_find 5 (some .int)
set_option maxRecDepth 100000 in
theorem mc_Lv_find : cw_Lv_find ∈ tb := tb_t (List.mem_of_getElem? (i := 238) (by rfl)) rfl
abbrev cw_Lv_checkNew : Cond := .code y_Lv_checkNew b_Lv_checkNew 3 none
set_option maxRecDepth 100000 in
theorem mc_Lv_checkNew : cw_Lv_checkNew ∈ tb := tb_t (List.mem_of_getElem? (i := 242) (by rfl)) rfl
abbrev cw_Lv_nextsOf : Cond := .code y_Lv_nextsOf b_Lv_nextsOf 2 (some .int)
set_option maxRecDepth 100000 in
theorem mc_Lv_nextsOf : cw_Lv_nextsOf ∈ tb := tb_t (List.mem_of_getElem? (i := 330) (by rfl)) rfl
abbrev cw_Lv_usesOf : Cond := .code y_Lv_usesOf b_Lv_usesOf 2 (some .int)
set_option maxRecDepth 100000 in
theorem mc_Lv_usesOf : cw_Lv_usesOf ∈ tb := tb_t (List.mem_of_getElem? (i := 334) (by rfl)) rfl
abbrev cw_Lv_partsOf : Cond := .code y_Lv_partsOf b_Lv_partsOf 5 (some .long)
set_option maxRecDepth 100000 in
theorem mc_Lv_partsOf : cw_Lv_partsOf ∈ tb := tb_t (List.mem_of_getElem? (i := 338) (by rfl)) rfl
abbrev cw_Pt_only : Cond := .code y_Pt_only b_Pt_only 2 (some .long)
set_option maxRecDepth 100000 in
theorem mc_Pt_only : cw_Pt_only ∈ tb := tb_t (List.mem_of_getElem? (i := 341) (by rfl)) rfl
abbrev cw_Lv_partsIn : Cond := .code y_Lv_partsIn b_Lv_partsIn 3 (some .long)
set_option maxRecDepth 100000 in
theorem mc_Lv_partsIn : cw_Lv_partsIn ∈ tb := tb_t (List.mem_of_getElem? (i := 345) (by rfl)) rfl
abbrev cw_Pt_raised : Cond := .code y_Pt_raised b_Pt_raised 6 (some .long)
set_option maxRecDepth 100000 in
theorem mc_Pt_raised : cw_Pt_raised ∈ tb := tb_t (List.mem_of_getElem? (i := 348) (by rfl)) rfl
abbrev cw_Pt_at : Cond := .code y_Pt_at b_Pt_at 3 (some .int)
set_option maxRecDepth 100000 in
theorem mc_Pt_at : cw_Pt_at ∈ tb := tb_t (List.mem_of_getElem? (i := 351) (by rfl)) rfl
abbrev cw_Pt_joined : Cond := .code y_Pt_joined b_Pt_joined 9 (some .long)
set_option maxRecDepth 100000 in
theorem mc_Pt_joined : cw_Pt_joined ∈ tb := tb_t (List.mem_of_getElem? (i := 356) (by rfl)) rfl
abbrev cw_Pt_vanish : Cond := .code y_Pt_vanish b_Pt_vanish 2 (some .boolean)
set_option maxRecDepth 100000 in
theorem mc_Pt_vanish : cw_Pt_vanish ∈ tb := tb_t (List.mem_of_getElem? (i := 360) (by rfl)) rfl
abbrev cw_Law_parameter : Cond := .codeWith y_Law_parameter b_Law_parameter 4 (some .int) [(0, 9, 12, 19), (0, 9, 15, 13)]
set_option maxRecDepth 100000 in
theorem mc_Law_parameter : cw_Law_parameter ∈ tb := tb_t (List.mem_of_getElem? (i := 363) (by rfl)) rfl
abbrev cw_LR_parameter : Cond := .code y_LR_parameter b_LR_parameter 2 (some .int)
set_option maxRecDepth 100000 in
theorem mc_LR_parameter : cw_LR_parameter ∈ tb := tb_t (List.mem_of_getElem? (i := 368) (by rfl)) rfl
abbrev cw_LR_checkParameter : Cond := .code y_LR_checkParameter b_LR_checkParameter 1 none
set_option maxRecDepth 100000 in
theorem mc_LR_checkParameter : cw_LR_checkParameter ∈ tb := tb_t (List.mem_of_getElem? (i := 371) (by rfl)) rfl
abbrev cw_Law_next : Cond := .codeWith y_Law_next b_Law_next 4 (some .int) [(0, 9, 12, 19), (0, 9, 15, 24), (0, 9, 18, 13)]
set_option maxRecDepth 100000 in
theorem mc_Law_next : cw_Law_next ∈ tb := tb_t (List.mem_of_getElem? (i := 390) (by rfl)) rfl
abbrev cw_LR_next : Cond := .code y_LR_next b_LR_next 2 (some .int)
set_option maxRecDepth 100000 in
theorem mc_LR_next : cw_LR_next ∈ tb := tb_t (List.mem_of_getElem? (i := 395) (by rfl)) rfl
abbrev cw_LR_checkLevel : Cond := .code y_LR_checkLevel b_LR_checkLevel 2 none
set_option maxRecDepth 100000 in
theorem mc_LR_checkLevel : cw_LR_checkLevel ∈ tb := tb_t (List.mem_of_getElem? (i := 399) (by rfl)) rfl
abbrev cw_Law_join : Cond := .codeWith y_Law_join b_Law_join 6 (some .int) [(0, 12, 15, 19), (0, 12, 19, 13)]
set_option maxRecDepth 100000 in
theorem mc_Law_join : cw_Law_join ∈ tb := tb_t (List.mem_of_getElem? (i := 403) (by rfl)) rfl
abbrev cw_LR_join : Cond := .code y_LR_join b_LR_join 4 (some .int)
set_option maxRecDepth 100000 in
theorem mc_LR_join : cw_LR_join ∈ tb := tb_t (List.mem_of_getElem? (i := 407) (by rfl)) rfl
abbrev cw_Law_put : Cond := .codeWith y_Law_put b_Law_put 6 (some .int) [(0, 12, 15, 19), (0, 12, 19, 24), (0, 12, 23, 13)]
set_option maxRecDepth 100000 in
theorem mc_Law_put : cw_Law_put ∈ tb := tb_t (List.mem_of_getElem? (i := 410) (by rfl)) rfl
abbrev cw_LR_put : Cond := .code y_LR_put b_LR_put 4 (some .int)
set_option maxRecDepth 100000 in
theorem mc_LR_put : cw_LR_put ∈ tb := tb_t (List.mem_of_getElem? (i := 414) (by rfl)) rfl
abbrev cw_Rp_replaced : Cond := .code y_Rp_replaced b_Rp_replaced 8 (some .int)
set_option maxRecDepth 100000 in
theorem mc_Rp_replaced : cw_Rp_replaced ∈ tb := tb_t (List.mem_of_getElem? (i := 418) (by rfl)) rfl
abbrev cw_Rp_resultAhead : Cond := .code y_Rp_resultAhead b_Rp_resultAhead 4 (some .int)
set_option maxRecDepth 100000 in
theorem mc_Rp_resultAhead : cw_Rp_resultAhead ∈ tb := tb_t (List.mem_of_getElem? (i := 422) (by rfl)) rfl
abbrev cw_Lv_usesParameter : Cond := .code y_Lv_usesParameter b_Lv_usesParameter 3 (some .boolean)
set_option maxRecDepth 100000 in
theorem mc_Lv_usesParameter : cw_Lv_usesParameter ∈ tb := tb_t (List.mem_of_getElem? (i := 426) (by rfl)) rfl
abbrev cw_Lv_isParameter : Cond := .code y_Lv_isParameter b_Lv_isParameter 3 (some .boolean)
set_option maxRecDepth 100000 in
theorem mc_Lv_isParameter : cw_Lv_isParameter ∈ tb := tb_t (List.mem_of_getElem? (i := 430) (by rfl)) rfl
abbrev cw_Rp_missingPart : Cond := .code y_Rp_missingPart b_Rp_missingPart 4 (some .int)
set_option maxRecDepth 100000 in
theorem mc_Rp_missingPart : cw_Rp_missingPart ∈ tb := tb_t (List.mem_of_getElem? (i := 434) (by rfl)) rfl
abbrev cw_Rp_remade : Cond := .code y_Rp_remade b_Rp_remade 4 (some .int)
set_option maxRecDepth 100000 in
theorem mc_Rp_remade : cw_Rp_remade ∈ tb := tb_t (List.mem_of_getElem? (i := 439) (by rfl)) rfl
abbrev cw_Law_part : Cond := .codeWith y_Law_part b_Law_part 6 (some .int) [(0, 12, 15, 19)]
set_option maxRecDepth 100000 in
theorem mc_Law_part : cw_Law_part ∈ tb := tb_t (List.mem_of_getElem? (i := 443) (by rfl)) rfl
abbrev cw_LR_part : Cond := .code y_LR_part b_LR_part 4 (some .int)
set_option maxRecDepth 100000 in
theorem mc_LR_part : cw_LR_part ∈ tb := tb_t (List.mem_of_getElem? (i := 447) (by rfl)) rfl
abbrev cw_Law_isAtMost : Cond := .codeWith y_Law_isAtMost b_Law_isAtMost 5 (some .int) [(0, 17, 20, 19)]
set_option maxRecDepth 100000 in
theorem mc_Law_isAtMost : cw_Law_isAtMost ∈ tb := tb_t (List.mem_of_getElem? (i := 453) (by rfl)) rfl
abbrev cw_LR_isAtMost : Cond := .code y_LR_isAtMost b_LR_isAtMost 3 (some .boolean)
set_option maxRecDepth 100000 in
theorem mc_LR_isAtMost : cw_LR_isAtMost ∈ tb := tb_t (List.mem_of_getElem? (i := 457) (by rfl)) rfl
abbrev cw_Lv_firstRegionAbove : Cond := .code y_Lv_firstRegionAbove b_Lv_firstRegionAbove 4 (some .int)
set_option maxRecDepth 100000 in
theorem mc_Lv_firstRegionAbove : cw_Lv_firstRegionAbove ∈ tb := tb_t (List.mem_of_getElem? (i := 461) (by rfl)) rfl
abbrev cw_Pt_areAtMost : Cond := .code y_Pt_areAtMost b_Pt_areAtMost 4 (some .boolean)
set_option maxRecDepth 100000 in
theorem mc_Pt_areAtMost : cw_Pt_areAtMost ∈ tb := tb_t (List.mem_of_getElem? (i := 464) (by rfl)) rfl
abbrev cw_Pt_lastHigher : Cond := .code y_Pt_lastHigher b_Pt_lastHigher 5 (some .int)
set_option maxRecDepth 100000 in
theorem mc_Pt_lastHigher : cw_Pt_lastHigher ∈ tb := tb_t (List.mem_of_getElem? (i := 467) (by rfl)) rfl
abbrev cw_Pt_valueAtOnes : Cond := .code y_Pt_valueAtOnes b_Pt_valueAtOnes 4 (some .int)
set_option maxRecDepth 100000 in
theorem mc_Pt_valueAtOnes : cw_Pt_valueAtOnes ∈ tb := tb_t (List.mem_of_getElem? (i := 470) (by rfl)) rfl
abbrev cw_Law_isSame : Cond := .codeWith y_Law_isSame b_Law_isSame 5 (some .int) [(0, 17, 20, 19)]
set_option maxRecDepth 100000 in
theorem mc_Law_isSame : cw_Law_isSame ∈ tb := tb_t (List.mem_of_getElem? (i := 473) (by rfl)) rfl
abbrev cw_LR_isSame : Cond := .code y_LR_isSame b_LR_isSame 3 (some .boolean)
set_option maxRecDepth 100000 in
theorem mc_LR_isSame : cw_LR_isSame ∈ tb := tb_t (List.mem_of_getElem? (i := 477) (by rfl)) rfl
abbrev cw_Lv_haveSameParts : Cond := .code y_Lv_haveSameParts b_Lv_haveSameParts 4 (some .boolean)
set_option maxRecDepth 100000 in
theorem mc_Lv_haveSameParts : cw_Lv_haveSameParts ∈ tb := tb_t (List.mem_of_getElem? (i := 481) (by rfl)) rfl
abbrev cw_Law_least : Cond := .codeWith y_Law_least b_Law_least 4 (some .int) [(0, 9, 12, 19)]
set_option maxRecDepth 100000 in
theorem mc_Law_least : cw_Law_least ∈ tb := tb_t (List.mem_of_getElem? (i := 484) (by rfl)) rfl
abbrev cw_LR_least : Cond := .code y_LR_least b_LR_least 2 (some .int)
set_option maxRecDepth 100000 in
theorem mc_LR_least : cw_LR_least ∈ tb := tb_t (List.mem_of_getElem? (i := 488) (by rfl)) rfl
abbrev cw_Lv_leastLike : Cond := .code y_Lv_leastLike b_Lv_leastLike 3 (some .int)
set_option maxRecDepth 100000 in
theorem mc_Lv_leastLike : cw_Lv_leastLike ∈ tb := tb_t (List.mem_of_getElem? (i := 492) (by rfl)) rfl
abbrev cw_Law_above : Cond := .codeWith y_Law_above b_Law_above 5 (some .int) [(0, 9, 12, 19)]
set_option maxRecDepth 100000 in
theorem mc_Law_above : cw_Law_above ∈ tb := tb_t (List.mem_of_getElem? (i := 496) (by rfl)) rfl
abbrev cw_LR_above : Cond := .code y_LR_above b_LR_above 4 (some .long)
set_option maxRecDepth 100000 in
theorem mc_LR_above : cw_LR_above ∈ tb := tb_t (List.mem_of_getElem? (i := 500) (by rfl)) rfl
abbrev cw_Pt_pointAbove : Cond := .code y_Pt_pointAbove b_Pt_pointAbove 9 (some .long)
set_option maxRecDepth 100000 in
theorem mc_Pt_pointAbove : cw_Pt_pointAbove ∈ tb := tb_t (List.mem_of_getElem? (i := 504) (by rfl)) rfl
abbrev cw_Pt_onesOf : Cond := .code y_Pt_onesOf b_Pt_onesOf 4 (some .long)
set_option maxRecDepth 100000 in
theorem mc_Pt_onesOf : cw_Pt_onesOf ∈ tb := tb_t (List.mem_of_getElem? (i := 507) (by rfl)) rfl
abbrev cw_Law_unknown : Cond := .codeWith y_Law_unknown b_Law_unknown 3 (some .int) [(0, 8, 11, 13)]
set_option maxRecDepth 100000 in
theorem mc_Law_unknown : cw_Law_unknown ∈ tb := tb_t (List.mem_of_getElem? (i := 510) (by rfl)) rfl
abbrev cw_LR_unknown : Cond := .code y_LR_unknown b_LR_unknown 1 (some .int)
set_option maxRecDepth 100000 in
theorem mc_LR_unknown : cw_LR_unknown ∈ tb := tb_t (List.mem_of_getElem? (i := 514) (by rfl)) rfl
abbrev cw_Nd_addUnknown : Cond := .code y_Nd_addUnknown b_Nd_addUnknown 1 (some .int)
set_option maxRecDepth 100000 in
theorem mc_Nd_addUnknown : cw_Nd_addUnknown ∈ tb := tb_t (List.mem_of_getElem? (i := 521) (by rfl)) rfl
abbrev cw_Law_need : Cond := .codeWith y_Law_need b_Law_need 6 (some .int) [(0, 12, 15, 19), (0, 12, 19, 24), (0, 12, 23, 13)]
set_option maxRecDepth 100000 in
theorem mc_Law_need : cw_Law_need ∈ tb := tb_t (List.mem_of_getElem? (i := 524) (by rfl)) rfl
abbrev cw_LR_need : Cond := .code y_LR_need b_LR_need 4 (some .int)
set_option maxRecDepth 100000 in
theorem mc_LR_need : cw_LR_need ∈ tb := tb_t (List.mem_of_getElem? (i := 528) (by rfl)) rfl
abbrev cw_Nd_isSide : Cond := .code y_Nd_isSide b_Nd_isSide 2 (some .boolean)
set_option maxRecDepth 100000 in
theorem mc_Nd_isSide : cw_Nd_isSide ∈ tb := tb_t (List.mem_of_getElem? (i := 532) (by rfl)) rfl
abbrev cw_Nd_add : Cond := .code y_Nd_add b_Nd_add 4 (some .int)
set_option maxRecDepth 100000 in
theorem mc_Nd_add : cw_Nd_add ∈ tb := tb_t (List.mem_of_getElem? (i := 541) (by rfl)) rfl
abbrev cw_Mo_init : Cond := .code y_Mo_init b_Mo_init 1 none
set_option maxRecDepth 100000 in
theorem mc_Mo_init : cw_Mo_init ∈ tb := tb_t (List.mem_of_getElem? (i := 546) (by rfl)) rfl
abbrev cw_Mo_thrown : Cond := .code y_Mo_thrown b_Mo_thrown 1 (some .int)
set_option maxRecDepth 100000 in
theorem mc_Mo_thrown : cw_Mo_thrown ∈ tb := tb_t (List.mem_of_getElem? (i := 603) (by rfl)) rfl
abbrev cw_Mo_zero : Cond := .code y_Mo_zero b_Mo_zero 1 (some .int)
set_option maxRecDepth 100000 in
theorem mc_Mo_zero : cw_Mo_zero ∈ tb := tb_t (List.mem_of_getElem? (i := 607) (by rfl)) rfl
abbrev cw_Mo_made : Cond := .code y_Mo_made b_Mo_made 6 (some .int)
set_option maxRecDepth 100000 in
theorem mc_Mo_made : cw_Mo_made ∈ tb := tb_t (List.mem_of_getElem? (i := 611) (by rfl)) rfl
abbrev cw_Mo_make : Cond := .code y_Mo_make b_Mo_make 5 (some .int)
set_option maxRecDepth 100000 in
theorem mc_Mo_make : cw_Mo_make ∈ tb := tb_t (List.mem_of_getElem? (i := 615) (by rfl)) rfl
abbrev cw_Mo_parameter : Cond := .code y_Mo_parameter b_Mo_parameter 2 (some .int)
set_option maxRecDepth 100000 in
theorem mc_Mo_parameter : cw_Mo_parameter ∈ tb := tb_t (List.mem_of_getElem? (i := 619) (by rfl)) rfl
abbrev cw_Mo_refuses : Cond := .code y_Mo_refuses b_Mo_refuses 2 (some .boolean)
set_option maxRecDepth 100000 in
theorem mc_Mo_refuses : cw_Mo_refuses ∈ tb := tb_t (List.mem_of_getElem? (i := 623) (by rfl)) rfl
abbrev cw_Mo_next : Cond := .code y_Mo_next b_Mo_next 2 (some .int)
set_option maxRecDepth 100000 in
theorem mc_Mo_next : cw_Mo_next ∈ tb := tb_t (List.mem_of_getElem? (i := 627) (by rfl)) rfl
abbrev cw_Mo_isLevel : Cond := .code y_Mo_isLevel b_Mo_isLevel 2 (some .boolean)
set_option maxRecDepth 100000 in
theorem mc_Mo_isLevel : cw_Mo_isLevel ∈ tb := tb_t (List.mem_of_getElem? (i := 631) (by rfl)) rfl
abbrev cw_Mo_join : Cond := .code y_Mo_join b_Mo_join 4 (some .int)
set_option maxRecDepth 100000 in
theorem mc_Mo_join : cw_Mo_join ∈ tb := tb_t (List.mem_of_getElem? (i := 635) (by rfl)) rfl
abbrev cw_Mo_level : Cond := .code y_Mo_level b_Mo_level 3 (some .int)
set_option maxRecDepth 100000 in
theorem mc_Mo_level : cw_Mo_level ∈ tb := tb_t (List.mem_of_getElem? (i := 639) (by rfl)) rfl
abbrev cw_Mo_put : Cond := .code y_Mo_put b_Mo_put 8 (some .int)
set_option maxRecDepth 100000 in
theorem mc_Mo_put : cw_Mo_put ∈ tb := tb_t (List.mem_of_getElem? (i := 643) (by rfl)) rfl
abbrev cw_Mo_changed : Cond := .code y_Mo_changed b_Mo_changed 8 (some .int)
set_option maxRecDepth 100000 in
theorem mc_Mo_changed : cw_Mo_changed ∈ tb := tb_t (List.mem_of_getElem? (i := 647) (by rfl)) rfl
abbrev cw_Mo_value : Cond := .code y_Mo_value b_Mo_value 5 (some .int)
set_option maxRecDepth 100000 in
theorem mc_Mo_value : cw_Mo_value ∈ tb := tb_t (List.mem_of_getElem? (i := 651) (by rfl)) rfl
abbrev cw_Mo_reckon : Cond := .code y_Mo_reckon b_Mo_reckon 4 none
set_option maxRecDepth 100000 in
theorem mc_Mo_reckon : cw_Mo_reckon ∈ tb := tb_t (List.mem_of_getElem? (i := 656) (by rfl)) rfl
abbrev cw_Mo_part : Cond := .code y_Mo_part b_Mo_part 7 (some .int)
set_option maxRecDepth 100000 in
theorem mc_Mo_part : cw_Mo_part ∈ tb := tb_t (List.mem_of_getElem? (i := 660) (by rfl)) rfl
abbrev cw_Mo_growth : Cond := .code y_Mo_growth b_Mo_growth 4 (some .int)
set_option maxRecDepth 100000 in
theorem mc_Mo_growth : cw_Mo_growth ∈ tb := tb_t (List.mem_of_getElem? (i := 664) (by rfl)) rfl
abbrev cw_Mo_rest : Cond := .code y_Mo_rest b_Mo_rest 5 none
set_option maxRecDepth 100000 in
theorem mc_Mo_rest : cw_Mo_rest ∈ tb := tb_t (List.mem_of_getElem? (i := 668) (by rfl)) rfl
abbrev cw_Mo_isAtMost : Cond := .code y_Mo_isAtMost b_Mo_isAtMost 3 (some .boolean)
set_option maxRecDepth 100000 in
theorem mc_Mo_isAtMost : cw_Mo_isAtMost ∈ tb := tb_t (List.mem_of_getElem? (i := 672) (by rfl)) rfl
abbrev cw_Mo_regionOf : Cond := .code y_Mo_regionOf b_Mo_regionOf 4 (some .int)
set_option maxRecDepth 100000 in
theorem mc_Mo_regionOf : cw_Mo_regionOf ∈ tb := tb_t (List.mem_of_getElem? (i := 676) (by rfl)) rfl
abbrev cw_Mo_goesOn : Cond := .code y_Mo_goesOn b_Mo_goesOn 7 (some .boolean)
set_option maxRecDepth 100000 in
theorem mc_Mo_goesOn : cw_Mo_goesOn ∈ tb := tb_t (List.mem_of_getElem? (i := 680) (by rfl)) rfl
abbrev cw_Mo_isSame : Cond := .code y_Mo_isSame b_Mo_isSame 3 (some .boolean)
set_option maxRecDepth 100000 in
theorem mc_Mo_isSame : cw_Mo_isSame ∈ tb := tb_t (List.mem_of_getElem? (i := 684) (by rfl)) rfl
abbrev cw_Mo_isSameLevel : Cond := .code y_Mo_isSameLevel b_Mo_isSameLevel 3 (some .boolean)
set_option maxRecDepth 100000 in
theorem mc_Mo_isSameLevel : cw_Mo_isSameLevel ∈ tb := tb_t (List.mem_of_getElem? (i := 688) (by rfl)) rfl
abbrev cw_Mo_least : Cond := .code y_Mo_least b_Mo_least 3 (some .int)
set_option maxRecDepth 100000 in
theorem mc_Mo_least : cw_Mo_least ∈ tb := tb_t (List.mem_of_getElem? (i := 692) (by rfl)) rfl
abbrev cw_Mo_above : Cond := .code y_Mo_above b_Mo_above 10 (some .long)
set_option maxRecDepth 100000 in
theorem mc_Mo_above : cw_Mo_above ∈ tb := tb_t (List.mem_of_getElem? (i := 696) (by rfl)) rfl
abbrev cw_Mo_unknown : Cond := .code y_Mo_unknown b_Mo_unknown 1 (some .int)
set_option maxRecDepth 100000 in
theorem mc_Mo_unknown : cw_Mo_unknown ∈ tb := tb_t (List.mem_of_getElem? (i := 701) (by rfl)) rfl
abbrev cw_Mo_need : Cond := .code y_Mo_need b_Mo_need 4 (some .int)
set_option maxRecDepth 100000 in
theorem mc_Mo_need : cw_Mo_need ∈ tb := tb_t (List.mem_of_getElem? (i := 705) (by rfl)) rfl
abbrev cw_Mo_isSide : Cond := .code y_Mo_isSide b_Mo_isSide 2 (some .boolean)
set_option maxRecDepth 100000 in
theorem mc_Mo_isSide : cw_Mo_isSide ∈ tb := tb_t (List.mem_of_getElem? (i := 709) (by rfl)) rfl
abbrev cw_Mo_isSolved : Cond := .code y_Mo_isSolved b_Mo_isSolved 1 (some .boolean)
set_option maxRecDepth 100000 in
theorem mc_Mo_isSolved : cw_Mo_isSolved ∈ tb := tb_t (List.mem_of_getElem? (i := 713) (by rfl)) rfl
abbrev cw_Mo_solvesAll : Cond := .code y_Mo_solvesAll b_Mo_solvesAll 2 (some .boolean)
set_option maxRecDepth 100000 in
theorem mc_Mo_solvesAll : cw_Mo_solvesAll ∈ tb := tb_t (List.mem_of_getElem? (i := 717) (by rfl)) rfl
abbrev cw_Mo_solves : Cond := .code y_Mo_solves b_Mo_solves 4 (some .boolean)
set_option maxRecDepth 100000 in
theorem mc_Mo_solves : cw_Mo_solves ∈ tb := tb_t (List.mem_of_getElem? (i := 721) (by rfl)) rfl
abbrev cw_Mo_solution : Cond := .code y_Mo_solution b_Mo_solution 2 (some .int)
set_option maxRecDepth 100000 in
theorem mc_Mo_solution : cw_Mo_solution ∈ tb := tb_t (List.mem_of_getElem? (i := 725) (by rfl)) rfl
abbrev cw_Mo_isClash : Cond := .code y_Mo_isClash b_Mo_isClash 3 (some .boolean)
set_option maxRecDepth 100000 in
theorem mc_Mo_isClash : cw_Mo_isClash ∈ tb := tb_t (List.mem_of_getElem? (i := 729) (by rfl)) rfl
abbrev cw_Mo_undo : Cond := .code y_Mo_undo b_Mo_undo 2 (some .boolean)
set_option maxRecDepth 100000 in
theorem mc_Mo_undo : cw_Mo_undo ∈ tb := tb_t (List.mem_of_getElem? (i := 733) (by rfl)) rfl
abbrev cw_Mo_about : Cond := .code y_Mo_about b_Mo_about 2 (some .int)
set_option maxRecDepth 100000 in
theorem mc_Mo_about : cw_Mo_about ∈ tb := tb_t (List.mem_of_getElem? (i := 737) (by rfl)) rfl
theorem mw_0 : (.initialized R_Law : Cond) ∈ tb := tb_t (List.mem_of_getElem? (i := 0) (by decide +kernel)) rfl
theorem mw_1 : (.initialized R_LR : Cond) ∈ tb := tb_t (List.mem_of_getElem? (i := 1) (by decide +kernel)) rfl
theorem mw_2 : (.initialized R_Lv : Cond) ∈ tb := tb_t (List.mem_of_getElem? (i := 2) (by decide +kernel)) rfl
theorem mw_3 : (.initialized R_Rp : Cond) ∈ tb := tb_t (List.mem_of_getElem? (i := 3) (by decide +kernel)) rfl
theorem mw_4 : (.initialized R_Nd : Cond) ∈ tb := tb_t (List.mem_of_getElem? (i := 4) (by decide +kernel)) rfl
theorem mw_5 : (.initialized R_Mo : Cond) ∈ tb := tb_t (List.mem_of_getElem? (i := 5) (by decide +kernel)) rfl
theorem mw_6 : (.initialized "java/lang/Throwable" : Cond) ∈ tb := tb_t (List.mem_of_getElem? (i := 6) (by decide +kernel)) rfl
theorem mw_7 : (.initialized "java/lang/Exception" : Cond) ∈ tb := tb_t (List.mem_of_getElem? (i := 7) (by decide +kernel)) rfl
theorem mw_8 : (.initialized "java/lang/RuntimeException" : Cond) ∈ tb := tb_t (List.mem_of_getElem? (i := 8) (by decide +kernel)) rfl
theorem mw_9 : (.initialized "java/lang/IllegalArgumentException" : Cond) ∈ tb := tb_t (List.mem_of_getElem? (i := 9) (by decide +kernel)) rfl
theorem mw_10 : (.initialized "java/lang/IllegalStateException" : Cond) ∈ tb := tb_t (List.mem_of_getElem? (i := 10) (by decide +kernel)) rfl
theorem mw_11 : (.initialized "java/lang/Math" : Cond) ∈ tb := tb_t (List.mem_of_getElem? (i := 11) (by decide +kernel)) rfl
theorem mw_12 : (.initialized R_Pt : Cond) ∈ tb := tb_t (List.mem_of_getElem? (i := 12) (by decide +kernel)) rfl
theorem mw_13 : (.initialized "java/lang/IndexOutOfBoundsException" : Cond) ∈ tb := tb_t (List.mem_of_getElem? (i := 13) (by decide +kernel)) rfl
theorem mw_14 : (.initialized R_Ar : Cond) ∈ tb := tb_t (List.mem_of_getElem? (i := 14) (by decide +kernel)) rfl
theorem mw_15 : (.classLink R_Law 8 R_LR : Cond) ∈ tb := tb_t (List.mem_of_getElem? (i := 15) (by decide +kernel)) rfl
theorem mw_16 : (.instantiable R_LR 3 : Cond) ∈ tb := tb_t (List.mem_of_getElem? (i := 16) (by decide +kernel)) rfl
theorem mw_17 : (.methodLink R_Law 57 y_LR_init : Cond) ∈ tb := tb_t (List.mem_of_getElem? (i := 17) (by decide +kernel)) rfl
theorem mw_18 : (.instanceMethod y_LR_init : Cond) ∈ tb := tb_t (List.mem_of_getElem? (i := 18) (by decide +kernel)) rfl
theorem mw_20 : (.methodLink R_LR 3 ⟨"java/lang/Object", "<init>", "()V"⟩ : Cond) ∈ tb := tb_t (List.mem_of_getElem? (i := 20) (by decide +kernel)) rfl
theorem mw_21 : (.instanceMethod ⟨"java/lang/Object", "<init>", "()V"⟩ : Cond) ∈ tb := tb_t (List.mem_of_getElem? (i := 21) (by decide +kernel)) rfl
theorem mw_23 : (.classLink R_LR 9 R_Lv : Cond) ∈ tb := tb_t (List.mem_of_getElem? (i := 23) (by decide +kernel)) rfl
theorem mw_24 : (.instantiable R_Lv 8 : Cond) ∈ tb := tb_t (List.mem_of_getElem? (i := 24) (by decide +kernel)) rfl
theorem mw_26 : (.instanceMethod y_Lv_init : Cond) ∈ tb := tb_t (List.mem_of_getElem? (i := 26) (by decide +kernel)) rfl
theorem mw_28 : (.methodLink R_Lv 3 ⟨"java/lang/Object", "<init>", "()V"⟩ : Cond) ∈ tb := tb_t (List.mem_of_getElem? (i := 28) (by decide +kernel)) rfl
theorem mw_29 : (.fieldLink R_Lv 9 R_Lv "kinds" "[I" : Cond) ∈ tb := tb_t (List.mem_of_getElem? (i := 29) (by decide +kernel)) rfl
theorem mw_30 : (.fieldLink R_Lv 15 R_Lv "firsts" "[I" : Cond) ∈ tb := tb_t (List.mem_of_getElem? (i := 30) (by decide +kernel)) rfl
theorem mw_31 : (.fieldLink R_Lv 18 R_Lv "seconds" "[I" : Cond) ∈ tb := tb_t (List.mem_of_getElem? (i := 31) (by decide +kernel)) rfl
theorem mw_32 : (.fieldLink R_Lv 21 R_Lv "nexts" "[I" : Cond) ∈ tb := tb_t (List.mem_of_getElem? (i := 32) (by decide +kernel)) rfl
theorem mw_33 : (.fieldLink R_Lv 24 R_Lv "uses" "[I" : Cond) ∈ tb := tb_t (List.mem_of_getElem? (i := 33) (by decide +kernel)) rfl
theorem mw_34 : (.fieldLink R_Lv 27 R_Lv "values" "[I" : Cond) ∈ tb := tb_t (List.mem_of_getElem? (i := 34) (by decide +kernel)) rfl
theorem mw_35 : (.fieldLink R_Lv 30 R_Lv "parts" "[J" : Cond) ∈ tb := tb_t (List.mem_of_getElem? (i := 35) (by decide +kernel)) rfl
theorem mw_36 : (.fieldLink R_Lv 34 R_Lv "count" "I" : Cond) ∈ tb := tb_t (List.mem_of_getElem? (i := 36) (by decide +kernel)) rfl
theorem mw_54 : (.arrayClass .int : Cond) ∈ tb := tb_t (List.mem_of_getElem? (i := 54) (by decide +kernel)) rfl
theorem mw_55 : (.arrayClass .long : Cond) ∈ tb := tb_t (List.mem_of_getElem? (i := 55) (by decide +kernel)) rfl
theorem mw_56 : (.classLink R_LR 16 R_Rp : Cond) ∈ tb := tb_t (List.mem_of_getElem? (i := 56) (by decide +kernel)) rfl
theorem mw_57 : (.instantiable R_Rp 3 : Cond) ∈ tb := tb_t (List.mem_of_getElem? (i := 57) (by decide +kernel)) rfl
theorem mw_58 : (.methodLink R_LR 18 y_Rp_init : Cond) ∈ tb := tb_t (List.mem_of_getElem? (i := 58) (by decide +kernel)) rfl
theorem mw_59 : (.instanceMethod y_Rp_init : Cond) ∈ tb := tb_t (List.mem_of_getElem? (i := 59) (by decide +kernel)) rfl
theorem mw_61 : (.methodLink R_Rp 3 ⟨"java/lang/Object", "<init>", "()V"⟩ : Cond) ∈ tb := tb_t (List.mem_of_getElem? (i := 61) (by decide +kernel)) rfl
theorem mw_62 : (.fieldLink R_Rp 18 R_Rp "levels" "LLevelRows$Levels;" : Cond) ∈ tb := tb_t (List.mem_of_getElem? (i := 62) (by decide +kernel)) rfl
theorem mw_63 : (.fieldLink R_Rp 9 R_Rp "results" "[I" : Cond) ∈ tb := tb_t (List.mem_of_getElem? (i := 63) (by decide +kernel)) rfl
theorem mw_64 : (.fieldLink R_Rp 15 R_Rp "open" "[I" : Cond) ∈ tb := tb_t (List.mem_of_getElem? (i := 64) (by decide +kernel)) rfl
theorem mw_72 : (.classLink R_LR 25 R_Nd : Cond) ∈ tb := tb_t (List.mem_of_getElem? (i := 72) (by decide +kernel)) rfl
theorem mw_73 : (.instantiable R_Nd 10 : Cond) ∈ tb := tb_t (List.mem_of_getElem? (i := 73) (by decide +kernel)) rfl
theorem mw_75 : (.instanceMethod y_Nd_init : Cond) ∈ tb := tb_t (List.mem_of_getElem? (i := 75) (by decide +kernel)) rfl
theorem mw_77 : (.methodLink R_Nd 3 ⟨"java/lang/Object", "<init>", "()V"⟩ : Cond) ∈ tb := tb_t (List.mem_of_getElem? (i := 77) (by decide +kernel)) rfl
theorem mw_78 : (.fieldLink R_Nd 9 R_Nd "lows" "[I" : Cond) ∈ tb := tb_t (List.mem_of_getElem? (i := 78) (by decide +kernel)) rfl
theorem mw_79 : (.fieldLink R_Nd 15 R_Nd "steps" "[I" : Cond) ∈ tb := tb_t (List.mem_of_getElem? (i := 79) (by decide +kernel)) rfl
theorem mw_80 : (.fieldLink R_Nd 18 R_Nd "highs" "[I" : Cond) ∈ tb := tb_t (List.mem_of_getElem? (i := 80) (by decide +kernel)) rfl
theorem mw_81 : (.fieldLink R_Nd 21 R_Nd "kept" "[Z" : Cond) ∈ tb := tb_t (List.mem_of_getElem? (i := 81) (by decide +kernel)) rfl
theorem mw_82 : (.fieldLink R_Nd 25 R_Nd "numbers" "[I" : Cond) ∈ tb := tb_t (List.mem_of_getElem? (i := 82) (by decide +kernel)) rfl
theorem mw_83 : (.fieldLink R_Nd 28 R_Nd "unknowns" "I" : Cond) ∈ tb := tb_t (List.mem_of_getElem? (i := 83) (by decide +kernel)) rfl
theorem mw_84 : (.fieldLink R_Nd 32 R_Nd "count" "I" : Cond) ∈ tb := tb_t (List.mem_of_getElem? (i := 84) (by decide +kernel)) rfl
theorem mw_85 : (.fieldLink R_Nd 35 R_Nd "solved" "Z" : Cond) ∈ tb := tb_t (List.mem_of_getElem? (i := 85) (by decide +kernel)) rfl
theorem mw_86 : (.fieldLink R_Nd 39 R_Nd "solvedIsKnown" "Z" : Cond) ∈ tb := tb_t (List.mem_of_getElem? (i := 86) (by decide +kernel)) rfl
theorem mw_87 : (.fieldLink R_Nd 42 R_Nd "clashIsKnown" "Z" : Cond) ∈ tb := tb_t (List.mem_of_getElem? (i := 87) (by decide +kernel)) rfl
theorem mw_109 : (.arrayClass .boolean : Cond) ∈ tb := tb_t (List.mem_of_getElem? (i := 109) (by decide +kernel)) rfl
theorem mw_110 : (.fieldLink R_LR 12 R_LR "levels" "LLevelRows$Levels;" : Cond) ∈ tb := tb_t (List.mem_of_getElem? (i := 110) (by decide +kernel)) rfl
theorem mw_111 : (.fieldLink R_LR 21 R_LR "replacement" "LLevelRows$Replacement;" : Cond) ∈ tb := tb_t (List.mem_of_getElem? (i := 111) (by decide +kernel)) rfl
theorem mw_112 : (.fieldLink R_LR 28 R_LR "needs" "LLevelRows$Needs;" : Cond) ∈ tb := tb_t (List.mem_of_getElem? (i := 112) (by decide +kernel)) rfl
theorem mw_120 : (.methodLink R_Law 81 y_LR_level : Cond) ∈ tb := tb_t (List.mem_of_getElem? (i := 120) (by decide +kernel)) rfl
theorem mw_121 : (.instanceMethod y_LR_level : Cond) ∈ tb := tb_t (List.mem_of_getElem? (i := 121) (by decide +kernel)) rfl
theorem mw_122 : (.selects R_LR y_LR_level y_LR_level : Cond) ∈ tb := tb_t (List.mem_of_getElem? (i := 122) (by decide +kernel)) rfl
theorem mw_124 : (.methodLink R_LR 43 y_Lv_has : Cond) ∈ tb := tb_t (List.mem_of_getElem? (i := 124) (by decide +kernel)) rfl
theorem mw_125 : (.instanceMethod y_Lv_has : Cond) ∈ tb := tb_t (List.mem_of_getElem? (i := 125) (by decide +kernel)) rfl
theorem mw_126 : (.selects R_Lv y_Lv_has y_Lv_has : Cond) ∈ tb := tb_t (List.mem_of_getElem? (i := 126) (by decide +kernel)) rfl
theorem mw_128 : (.methodLink R_LR 47 y_Lv_detail : Cond) ∈ tb := tb_t (List.mem_of_getElem? (i := 128) (by decide +kernel)) rfl
theorem mw_129 : (.instanceMethod y_Lv_detail : Cond) ∈ tb := tb_t (List.mem_of_getElem? (i := 129) (by decide +kernel)) rfl
theorem mw_130 : (.selects R_Lv y_Lv_detail y_Lv_detail : Cond) ∈ tb := tb_t (List.mem_of_getElem? (i := 130) (by decide +kernel)) rfl
theorem mw_132 : (.methodLink R_Law 92 y_LR_value : Cond) ∈ tb := tb_t (List.mem_of_getElem? (i := 132) (by decide +kernel)) rfl
theorem mw_133 : (.instanceMethod y_LR_value : Cond) ∈ tb := tb_t (List.mem_of_getElem? (i := 133) (by decide +kernel)) rfl
theorem mw_134 : (.selects R_LR y_LR_value y_LR_value : Cond) ∈ tb := tb_t (List.mem_of_getElem? (i := 134) (by decide +kernel)) rfl
theorem mw_136 : (.methodLink R_LR 54 y_Lv_valueFor : Cond) ∈ tb := tb_t (List.mem_of_getElem? (i := 136) (by decide +kernel)) rfl
theorem mw_137 : (.instanceMethod y_Lv_valueFor : Cond) ∈ tb := tb_t (List.mem_of_getElem? (i := 137) (by decide +kernel)) rfl
theorem mw_138 : (.selects R_Lv y_Lv_valueFor y_Lv_valueFor : Cond) ∈ tb := tb_t (List.mem_of_getElem? (i := 138) (by decide +kernel)) rfl
theorem mw_140 : (.methodLink R_Lv 95 y_Lv_valueOf : Cond) ∈ tb := tb_t (List.mem_of_getElem? (i := 140) (by decide +kernel)) rfl
theorem mw_142 : (.instanceMethod y_Lv_valueOf : Cond) ∈ tb := tb_t (List.mem_of_getElem? (i := 142) (by decide +kernel)) rfl
theorem mw_144 : (.methodLink R_Lv 69 ⟨"java/lang/Math", "max", "(II)I"⟩ : Cond) ∈ tb := tb_t (List.mem_of_getElem? (i := 144) (by decide +kernel)) rfl
theorem mw_145 : (.static ⟨"java/lang/Math", "max", "(II)I"⟩ : Cond) ∈ tb := tb_t (List.mem_of_getElem? (i := 145) (by decide +kernel)) rfl
theorem mw_147 : (.methodLink R_Law 119 y_LR_isSolved : Cond) ∈ tb := tb_t (List.mem_of_getElem? (i := 147) (by decide +kernel)) rfl
theorem mw_148 : (.instanceMethod y_LR_isSolved : Cond) ∈ tb := tb_t (List.mem_of_getElem? (i := 148) (by decide +kernel)) rfl
theorem mw_149 : (.selects R_LR y_LR_isSolved y_LR_isSolved : Cond) ∈ tb := tb_t (List.mem_of_getElem? (i := 149) (by decide +kernel)) rfl
theorem mw_151 : (.methodLink R_LR 122 y_Nd_areSolved : Cond) ∈ tb := tb_t (List.mem_of_getElem? (i := 151) (by decide +kernel)) rfl
theorem mw_152 : (.instanceMethod y_Nd_areSolved : Cond) ∈ tb := tb_t (List.mem_of_getElem? (i := 152) (by decide +kernel)) rfl
theorem mw_153 : (.selects R_Nd y_Nd_areSolved y_Nd_areSolved : Cond) ∈ tb := tb_t (List.mem_of_getElem? (i := 153) (by decide +kernel)) rfl
theorem mw_155 : (.methodLink R_Nd 52 y_Nd_keepAll : Cond) ∈ tb := tb_t (List.mem_of_getElem? (i := 155) (by decide +kernel)) rfl
theorem mw_157 : (.instanceMethod y_Nd_keepAll : Cond) ∈ tb := tb_t (List.mem_of_getElem? (i := 157) (by decide +kernel)) rfl
theorem mw_159 : (.methodLink R_Nd 55 y_Nd_canKeptBeSolved : Cond) ∈ tb := tb_t (List.mem_of_getElem? (i := 159) (by decide +kernel)) rfl
theorem mw_161 : (.instanceMethod y_Nd_canKeptBeSolved : Cond) ∈ tb := tb_t (List.mem_of_getElem? (i := 161) (by decide +kernel)) rfl
theorem mw_163 : (.methodLink R_Nd 65 y_Ar_fill : Cond) ∈ tb := tb_t (List.mem_of_getElem? (i := 163) (by decide +kernel)) rfl
theorem mw_164 : (.static y_Ar_fill : Cond) ∈ tb := tb_t (List.mem_of_getElem? (i := 164) (by decide +kernel)) rfl
theorem mw_166 : (.methodLink R_Nd 71 y_Nd_raiseNumbers : Cond) ∈ tb := tb_t (List.mem_of_getElem? (i := 166) (by decide +kernel)) rfl
theorem mw_168 : (.instanceMethod y_Nd_raiseNumbers : Cond) ∈ tb := tb_t (List.mem_of_getElem? (i := 168) (by decide +kernel)) rfl
theorem mw_170 : (.methodLink R_Law 124 y_LR_solution : Cond) ∈ tb := tb_t (List.mem_of_getElem? (i := 170) (by decide +kernel)) rfl
theorem mw_171 : (.instanceMethod y_LR_solution : Cond) ∈ tb := tb_t (List.mem_of_getElem? (i := 171) (by decide +kernel)) rfl
theorem mw_172 : (.selects R_LR y_LR_solution y_LR_solution : Cond) ∈ tb := tb_t (List.mem_of_getElem? (i := 172) (by decide +kernel)) rfl
theorem mw_174 : (.methodLink R_LR 126 y_Nd_leastNumber : Cond) ∈ tb := tb_t (List.mem_of_getElem? (i := 174) (by decide +kernel)) rfl
theorem mw_175 : (.instanceMethod y_Nd_leastNumber : Cond) ∈ tb := tb_t (List.mem_of_getElem? (i := 175) (by decide +kernel)) rfl
theorem mw_176 : (.selects R_Nd y_Nd_leastNumber y_Nd_leastNumber : Cond) ∈ tb := tb_t (List.mem_of_getElem? (i := 176) (by decide +kernel)) rfl
theorem mw_178 : (.methodLink R_Nd 45 y_Nd_isUnknown : Cond) ∈ tb := tb_t (List.mem_of_getElem? (i := 178) (by decide +kernel)) rfl
theorem mw_180 : (.instanceMethod y_Nd_isUnknown : Cond) ∈ tb := tb_t (List.mem_of_getElem? (i := 180) (by decide +kernel)) rfl
theorem mw_182 : (.methodLink R_Nd 59 y_Nd_areSolved : Cond) ∈ tb := tb_t (List.mem_of_getElem? (i := 182) (by decide +kernel)) rfl
theorem mw_183 : (.methodLink R_Law 128 y_LR_isClash : Cond) ∈ tb := tb_t (List.mem_of_getElem? (i := 183) (by decide +kernel)) rfl
theorem mw_184 : (.instanceMethod y_LR_isClash : Cond) ∈ tb := tb_t (List.mem_of_getElem? (i := 184) (by decide +kernel)) rfl
theorem mw_185 : (.selects R_LR y_LR_isClash y_LR_isClash : Cond) ∈ tb := tb_t (List.mem_of_getElem? (i := 185) (by decide +kernel)) rfl
theorem mw_187 : (.methodLink R_LR 129 y_Nd_isInClash : Cond) ∈ tb := tb_t (List.mem_of_getElem? (i := 187) (by decide +kernel)) rfl
theorem mw_188 : (.instanceMethod y_Nd_isInClash : Cond) ∈ tb := tb_t (List.mem_of_getElem? (i := 188) (by decide +kernel)) rfl
theorem mw_189 : (.selects R_Nd y_Nd_isInClash y_Nd_isInClash : Cond) ∈ tb := tb_t (List.mem_of_getElem? (i := 189) (by decide +kernel)) rfl
theorem mw_191 : (.methodLink R_Nd 62 y_Nd_keepClashOnly : Cond) ∈ tb := tb_t (List.mem_of_getElem? (i := 191) (by decide +kernel)) rfl
theorem mw_193 : (.instanceMethod y_Nd_keepClashOnly : Cond) ∈ tb := tb_t (List.mem_of_getElem? (i := 193) (by decide +kernel)) rfl
theorem mw_195 : (.methodLink R_Law 133 y_LR_undo : Cond) ∈ tb := tb_t (List.mem_of_getElem? (i := 195) (by decide +kernel)) rfl
theorem mw_196 : (.instanceMethod y_LR_undo : Cond) ∈ tb := tb_t (List.mem_of_getElem? (i := 196) (by decide +kernel)) rfl
theorem mw_197 : (.selects R_LR y_LR_undo y_LR_undo : Cond) ∈ tb := tb_t (List.mem_of_getElem? (i := 197) (by decide +kernel)) rfl
theorem mw_199 : (.methodLink R_LR 132 y_Nd_removeLatest : Cond) ∈ tb := tb_t (List.mem_of_getElem? (i := 199) (by decide +kernel)) rfl
theorem mw_200 : (.instanceMethod y_Nd_removeLatest : Cond) ∈ tb := tb_t (List.mem_of_getElem? (i := 200) (by decide +kernel)) rfl
theorem mw_201 : (.selects R_Nd y_Nd_removeLatest y_Nd_removeLatest : Cond) ∈ tb := tb_t (List.mem_of_getElem? (i := 201) (by decide +kernel)) rfl
theorem mw_203 : (.methodLink R_Nd 49 y_Nd_forget : Cond) ∈ tb := tb_t (List.mem_of_getElem? (i := 203) (by decide +kernel)) rfl
theorem mw_205 : (.instanceMethod y_Nd_forget : Cond) ∈ tb := tb_t (List.mem_of_getElem? (i := 205) (by decide +kernel)) rfl
theorem mw_207 : (.methodLink R_Law 137 y_LR_about : Cond) ∈ tb := tb_t (List.mem_of_getElem? (i := 207) (by decide +kernel)) rfl
theorem mw_208 : (.instanceMethod y_LR_about : Cond) ∈ tb := tb_t (List.mem_of_getElem? (i := 208) (by decide +kernel)) rfl
theorem mw_209 : (.selects R_LR y_LR_about y_LR_about : Cond) ∈ tb := tb_t (List.mem_of_getElem? (i := 209) (by decide +kernel)) rfl
theorem mw_211 : (.methodLink R_LR 135 y_Lv_size : Cond) ∈ tb := tb_t (List.mem_of_getElem? (i := 211) (by decide +kernel)) rfl
theorem mw_212 : (.instanceMethod y_Lv_size : Cond) ∈ tb := tb_t (List.mem_of_getElem? (i := 212) (by decide +kernel)) rfl
theorem mw_213 : (.selects R_Lv y_Lv_size y_Lv_size : Cond) ∈ tb := tb_t (List.mem_of_getElem? (i := 213) (by decide +kernel)) rfl
theorem mw_215 : (.methodLink R_LR 92 y_Nd_unknowns : Cond) ∈ tb := tb_t (List.mem_of_getElem? (i := 215) (by decide +kernel)) rfl
theorem mw_216 : (.instanceMethod y_Nd_unknowns : Cond) ∈ tb := tb_t (List.mem_of_getElem? (i := 216) (by decide +kernel)) rfl
theorem mw_217 : (.selects R_Nd y_Nd_unknowns y_Nd_unknowns : Cond) ∈ tb := tb_t (List.mem_of_getElem? (i := 217) (by decide +kernel)) rfl
theorem mw_219 : (.methodLink R_LR 114 y_Nd_size : Cond) ∈ tb := tb_t (List.mem_of_getElem? (i := 219) (by decide +kernel)) rfl
theorem mw_220 : (.instanceMethod y_Nd_size : Cond) ∈ tb := tb_t (List.mem_of_getElem? (i := 220) (by decide +kernel)) rfl
theorem mw_221 : (.selects R_Nd y_Nd_size y_Nd_size : Cond) ∈ tb := tb_t (List.mem_of_getElem? (i := 221) (by decide +kernel)) rfl
theorem mw_223 : (.methodLink R_Law 61 y_Law_zero : Cond) ∈ tb := tb_t (List.mem_of_getElem? (i := 223) (by decide +kernel)) rfl
theorem mw_224 : (.static y_Law_zero : Cond) ∈ tb := tb_t (List.mem_of_getElem? (i := 224) (by decide +kernel)) rfl
theorem mw_226 : (.classLink R_Law 13 "java/lang/IllegalStateException" : Cond) ∈ tb := tb_t (List.mem_of_getElem? (i := 226) (by decide +kernel)) rfl
theorem mw_227 : (.methodLink R_Law 7 y_LR_zero : Cond) ∈ tb := tb_t (List.mem_of_getElem? (i := 227) (by decide +kernel)) rfl
theorem mw_228 : (.instanceMethod y_LR_zero : Cond) ∈ tb := tb_t (List.mem_of_getElem? (i := 228) (by decide +kernel)) rfl
theorem mw_229 : (.selects R_LR y_LR_zero y_LR_zero : Cond) ∈ tb := tb_t (List.mem_of_getElem? (i := 229) (by decide +kernel)) rfl
theorem mw_231 : (.methodLink R_LR 32 y_Lv_made : Cond) ∈ tb := tb_t (List.mem_of_getElem? (i := 231) (by decide +kernel)) rfl
theorem mw_232 : (.instanceMethod y_Lv_made : Cond) ∈ tb := tb_t (List.mem_of_getElem? (i := 232) (by decide +kernel)) rfl
theorem mw_233 : (.selects R_Lv y_Lv_made y_Lv_made : Cond) ∈ tb := tb_t (List.mem_of_getElem? (i := 233) (by decide +kernel)) rfl
theorem mw_235 : (.methodLink R_Lv 38 y_Lv_find : Cond) ∈ tb := tb_t (List.mem_of_getElem? (i := 235) (by decide +kernel)) rfl
theorem mw_237 : (.instanceMethod y_Lv_find : Cond) ∈ tb := tb_t (List.mem_of_getElem? (i := 237) (by decide +kernel)) rfl
theorem mw_239 : (.methodLink R_Lv 42 y_Lv_checkNew : Cond) ∈ tb := tb_t (List.mem_of_getElem? (i := 239) (by decide +kernel)) rfl
theorem mw_241 : (.instanceMethod y_Lv_checkNew : Cond) ∈ tb := tb_t (List.mem_of_getElem? (i := 241) (by decide +kernel)) rfl
theorem mw_243 : (.classLink R_Lv 57 "java/lang/IllegalArgumentException" : Cond) ∈ tb := tb_t (List.mem_of_getElem? (i := 243) (by decide +kernel)) rfl
theorem mw_244 : (.instantiable "java/lang/IllegalArgumentException" 6 : Cond) ∈ tb := tb_t (List.mem_of_getElem? (i := 244) (by decide +kernel)) rfl
theorem mw_252 : (.selects "java/lang/IllegalArgumentException" ⟨"java/lang/Throwable", "fillInStackTrace", "(I)Ljava/lang/Throwable;"⟩ ⟨"java/lang/Throwable", "fillInStackTrace", "(I)Ljava/lang/Throwable;"⟩ : Cond) ∈ tb := tb_t (List.mem_of_getElem? (i := 252) (by decide +kernel)) rfl
theorem mw_253 : (.selects "java/lang/IllegalArgumentException" ⟨"java/lang/Throwable", "fillInStackTrace", "()Ljava/lang/Throwable;"⟩ ⟨"java/lang/Throwable", "fillInStackTrace", "()Ljava/lang/Throwable;"⟩ : Cond) ∈ tb := tb_t (List.mem_of_getElem? (i := 253) (by decide +kernel)) rfl
theorem mw_264 : (.fieldLink "java/lang/Throwable" 198 "java/lang/Throwable" "backtrace" "Ljava/lang/Object;" : Cond) ∈ tb := tb_t (List.mem_of_getElem? (i := 264) (by decide +kernel)) rfl
theorem mw_266 : (.instanceMethod ⟨"java/lang/Throwable", "<init>", "()V"⟩ : Cond) ∈ tb := tb_t (List.mem_of_getElem? (i := 266) (by decide +kernel)) rfl
theorem mw_268 : (.methodLink "java/lang/Throwable" 1 ⟨"java/lang/Object", "<init>", "()V"⟩ : Cond) ∈ tb := tb_t (List.mem_of_getElem? (i := 268) (by decide +kernel)) rfl
theorem mw_269 : (.fieldLink "java/lang/Throwable" 13 "java/lang/Throwable" "UNASSIGNED_STACK" "[Ljava/lang/StackTraceElement;" : Cond) ∈ tb := tb_t (List.mem_of_getElem? (i := 269) (by decide +kernel)) rfl
theorem mw_271 : (.fieldLink "java/lang/Throwable" 20 "java/lang/Throwable" "SUPPRESSED_SENTINEL" "Ljava/util/List;" : Cond) ∈ tb := tb_t (List.mem_of_getElem? (i := 271) (by decide +kernel)) rfl
theorem mw_273 : (.methodLink "java/lang/Throwable" 27 ⟨"java/lang/Throwable", "fillInStackTrace", "()Ljava/lang/Throwable;"⟩ : Cond) ∈ tb := tb_t (List.mem_of_getElem? (i := 273) (by decide +kernel)) rfl
theorem mw_274 : (.instanceMethod ⟨"java/lang/Throwable", "fillInStackTrace", "()Ljava/lang/Throwable;"⟩ : Cond) ∈ tb := tb_t (List.mem_of_getElem? (i := 274) (by decide +kernel)) rfl
theorem mw_275 : (.sameMethod "java/lang/Throwable" "java/lang/Throwable" "fillInStackTrace" "()Ljava/lang/Throwable;" : Cond) ∈ tb := tb_t (List.mem_of_getElem? (i := 275) (by decide +kernel)) rfl
theorem mw_276 : (.selects "java/lang/IllegalStateException" ⟨"java/lang/Throwable", "fillInStackTrace", "()Ljava/lang/Throwable;"⟩ ⟨"java/lang/Throwable", "fillInStackTrace", "()Ljava/lang/Throwable;"⟩ : Cond) ∈ tb := tb_t (List.mem_of_getElem? (i := 276) (by decide +kernel)) rfl
theorem mw_277 : (.selects "java/lang/IndexOutOfBoundsException" ⟨"java/lang/Throwable", "fillInStackTrace", "()Ljava/lang/Throwable;"⟩ ⟨"java/lang/Throwable", "fillInStackTrace", "()Ljava/lang/Throwable;"⟩ : Cond) ∈ tb := tb_t (List.mem_of_getElem? (i := 277) (by decide +kernel)) rfl
theorem mw_279 : (.methodLink "java/lang/Throwable" 202 ⟨"java/lang/Throwable", "fillInStackTrace", "(I)Ljava/lang/Throwable;"⟩ : Cond) ∈ tb := tb_t (List.mem_of_getElem? (i := 279) (by decide +kernel)) rfl
theorem mw_281 : (.instanceMethod ⟨"java/lang/Throwable", "fillInStackTrace", "(I)Ljava/lang/Throwable;"⟩ : Cond) ∈ tb := tb_t (List.mem_of_getElem? (i := 281) (by decide +kernel)) rfl
theorem mw_282 : (.instantiable "java/lang/Throwable" 6 : Cond) ∈ tb := tb_t (List.mem_of_getElem? (i := 282) (by decide +kernel)) rfl
theorem mw_283 : (.native ⟨"java/lang/Throwable", "fillInStackTrace", "(I)Ljava/lang/Throwable;"⟩ : Cond) ∈ tb := tb_t (List.mem_of_getElem? (i := 283) (by decide +kernel)) rfl
theorem mw_285 : (.methodLink R_Lv 61 ⟨"java/lang/IllegalArgumentException", "<init>", "(Ljava/lang/String;)V"⟩ : Cond) ∈ tb := tb_t (List.mem_of_getElem? (i := 285) (by decide +kernel)) rfl
theorem mw_286 : (.instanceMethod ⟨"java/lang/IllegalArgumentException", "<init>", "(Ljava/lang/String;)V"⟩ : Cond) ∈ tb := tb_t (List.mem_of_getElem? (i := 286) (by decide +kernel)) rfl
theorem mw_288 : (.methodLink "java/lang/IllegalArgumentException" 7 ⟨"java/lang/RuntimeException", "<init>", "(Ljava/lang/String;)V"⟩ : Cond) ∈ tb := tb_t (List.mem_of_getElem? (i := 288) (by decide +kernel)) rfl
theorem mw_289 : (.instanceMethod ⟨"java/lang/RuntimeException", "<init>", "(Ljava/lang/String;)V"⟩ : Cond) ∈ tb := tb_t (List.mem_of_getElem? (i := 289) (by decide +kernel)) rfl
theorem mw_291 : (.methodLink "java/lang/RuntimeException" 7 ⟨"java/lang/Exception", "<init>", "(Ljava/lang/String;)V"⟩ : Cond) ∈ tb := tb_t (List.mem_of_getElem? (i := 291) (by decide +kernel)) rfl
theorem mw_292 : (.instanceMethod ⟨"java/lang/Exception", "<init>", "(Ljava/lang/String;)V"⟩ : Cond) ∈ tb := tb_t (List.mem_of_getElem? (i := 292) (by decide +kernel)) rfl
theorem mw_294 : (.methodLink "java/lang/Exception" 7 ⟨"java/lang/Throwable", "<init>", "(Ljava/lang/String;)V"⟩ : Cond) ∈ tb := tb_t (List.mem_of_getElem? (i := 294) (by decide +kernel)) rfl
theorem mw_295 : (.instanceMethod ⟨"java/lang/Throwable", "<init>", "(Ljava/lang/String;)V"⟩ : Cond) ∈ tb := tb_t (List.mem_of_getElem? (i := 295) (by decide +kernel)) rfl
theorem mw_297 : (.fieldLink "java/lang/Throwable" 198 "java/lang/Throwable" "backtrace" "Ljava/lang/Object;" : Cond) ∈ tb := tb_t (List.mem_of_getElem? (i := 297) (by decide +kernel)) rfl
theorem mw_298 : (.fieldLink "java/lang/Throwable" 31 "java/lang/Throwable" "detailMessage" "Ljava/lang/String;" : Cond) ∈ tb := tb_t (List.mem_of_getElem? (i := 298) (by decide +kernel)) rfl
theorem mw_299 : (.fieldLink "java/lang/Throwable" 7 "java/lang/Throwable" "cause" "Ljava/lang/Throwable;" : Cond) ∈ tb := tb_t (List.mem_of_getElem? (i := 299) (by decide +kernel)) rfl
theorem mw_300 : (.fieldLink "java/lang/Throwable" 17 "java/lang/Throwable" "stackTrace" "[Ljava/lang/StackTraceElement;" : Cond) ∈ tb := tb_t (List.mem_of_getElem? (i := 300) (by decide +kernel)) rfl
theorem mw_301 : (.fieldLink "java/lang/Throwable" 24 "java/lang/Throwable" "suppressedExceptions" "Ljava/util/List;" : Cond) ∈ tb := tb_t (List.mem_of_getElem? (i := 301) (by decide +kernel)) rfl
theorem mw_310 : (.arrayClass .byte : Cond) ∈ tb := tb_t (List.mem_of_getElem? (i := 310) (by decide +kernel)) rfl
theorem mw_311 : (.classLink R_Lv 64 "java/lang/IllegalStateException" : Cond) ∈ tb := tb_t (List.mem_of_getElem? (i := 311) (by decide +kernel)) rfl
theorem mw_312 : (.instantiable "java/lang/IllegalStateException" 6 : Cond) ∈ tb := tb_t (List.mem_of_getElem? (i := 312) (by decide +kernel)) rfl
theorem mw_314 : (.selects "java/lang/IllegalStateException" ⟨"java/lang/Throwable", "fillInStackTrace", "(I)Ljava/lang/Throwable;"⟩ ⟨"java/lang/Throwable", "fillInStackTrace", "(I)Ljava/lang/Throwable;"⟩ : Cond) ∈ tb := tb_t (List.mem_of_getElem? (i := 314) (by decide +kernel)) rfl
theorem mw_321 : (.methodLink R_Lv 68 ⟨"java/lang/IllegalStateException", "<init>", "(Ljava/lang/String;)V"⟩ : Cond) ∈ tb := tb_t (List.mem_of_getElem? (i := 321) (by decide +kernel)) rfl
theorem mw_322 : (.instanceMethod ⟨"java/lang/IllegalStateException", "<init>", "(Ljava/lang/String;)V"⟩ : Cond) ∈ tb := tb_t (List.mem_of_getElem? (i := 322) (by decide +kernel)) rfl
theorem mw_324 : (.methodLink "java/lang/IllegalStateException" 7 ⟨"java/lang/RuntimeException", "<init>", "(Ljava/lang/String;)V"⟩ : Cond) ∈ tb := tb_t (List.mem_of_getElem? (i := 324) (by decide +kernel)) rfl
theorem mw_327 : (.methodLink R_Lv 46 y_Lv_nextsOf : Cond) ∈ tb := tb_t (List.mem_of_getElem? (i := 327) (by decide +kernel)) rfl
theorem mw_329 : (.instanceMethod y_Lv_nextsOf : Cond) ∈ tb := tb_t (List.mem_of_getElem? (i := 329) (by decide +kernel)) rfl
theorem mw_331 : (.methodLink R_Lv 50 y_Lv_usesOf : Cond) ∈ tb := tb_t (List.mem_of_getElem? (i := 331) (by decide +kernel)) rfl
theorem mw_333 : (.instanceMethod y_Lv_usesOf : Cond) ∈ tb := tb_t (List.mem_of_getElem? (i := 333) (by decide +kernel)) rfl
theorem mw_335 : (.methodLink R_Lv 53 y_Lv_partsOf : Cond) ∈ tb := tb_t (List.mem_of_getElem? (i := 335) (by decide +kernel)) rfl
theorem mw_337 : (.instanceMethod y_Lv_partsOf : Cond) ∈ tb := tb_t (List.mem_of_getElem? (i := 337) (by decide +kernel)) rfl
theorem mw_339 : (.methodLink R_Lv 77 y_Pt_only : Cond) ∈ tb := tb_t (List.mem_of_getElem? (i := 339) (by decide +kernel)) rfl
theorem mw_340 : (.static y_Pt_only : Cond) ∈ tb := tb_t (List.mem_of_getElem? (i := 340) (by decide +kernel)) rfl
theorem mw_342 : (.methodLink R_Lv 80 y_Lv_partsIn : Cond) ∈ tb := tb_t (List.mem_of_getElem? (i := 342) (by decide +kernel)) rfl
theorem mw_343 : (.instanceMethod y_Lv_partsIn : Cond) ∈ tb := tb_t (List.mem_of_getElem? (i := 343) (by decide +kernel)) rfl
theorem mw_344 : (.selects R_Lv y_Lv_partsIn y_Lv_partsIn : Cond) ∈ tb := tb_t (List.mem_of_getElem? (i := 344) (by decide +kernel)) rfl
theorem mw_346 : (.methodLink R_Lv 83 y_Pt_raised : Cond) ∈ tb := tb_t (List.mem_of_getElem? (i := 346) (by decide +kernel)) rfl
theorem mw_347 : (.static y_Pt_raised : Cond) ∈ tb := tb_t (List.mem_of_getElem? (i := 347) (by decide +kernel)) rfl
theorem mw_349 : (.methodLink R_Pt 13 y_Pt_at : Cond) ∈ tb := tb_t (List.mem_of_getElem? (i := 349) (by decide +kernel)) rfl
theorem mw_350 : (.static y_Pt_at : Cond) ∈ tb := tb_t (List.mem_of_getElem? (i := 350) (by decide +kernel)) rfl
theorem mw_352 : (.constantLong R_Pt 11 255 : Cond) ∈ tb := tb_t (List.mem_of_getElem? (i := 352) (by decide +kernel)) rfl
theorem mw_353 : (.methodLink R_Pt 17 y_Pt_only : Cond) ∈ tb := tb_t (List.mem_of_getElem? (i := 353) (by decide +kernel)) rfl
theorem mw_354 : (.methodLink R_Lv 87 y_Pt_joined : Cond) ∈ tb := tb_t (List.mem_of_getElem? (i := 354) (by decide +kernel)) rfl
theorem mw_355 : (.static y_Pt_joined : Cond) ∈ tb := tb_t (List.mem_of_getElem? (i := 355) (by decide +kernel)) rfl
theorem mw_357 : (.methodLink R_Pt 21 ⟨"java/lang/Math", "max", "(II)I"⟩ : Cond) ∈ tb := tb_t (List.mem_of_getElem? (i := 357) (by decide +kernel)) rfl
theorem mw_358 : (.methodLink R_Lv 91 y_Pt_vanish : Cond) ∈ tb := tb_t (List.mem_of_getElem? (i := 358) (by decide +kernel)) rfl
theorem mw_359 : (.static y_Pt_vanish : Cond) ∈ tb := tb_t (List.mem_of_getElem? (i := 359) (by decide +kernel)) rfl
theorem mw_361 : (.methodLink R_Law 70 y_Law_parameter : Cond) ∈ tb := tb_t (List.mem_of_getElem? (i := 361) (by decide +kernel)) rfl
theorem mw_362 : (.static y_Law_parameter : Cond) ∈ tb := tb_t (List.mem_of_getElem? (i := 362) (by decide +kernel)) rfl
theorem mw_364 : (.classLink R_Law 19 "java/lang/IndexOutOfBoundsException" : Cond) ∈ tb := tb_t (List.mem_of_getElem? (i := 364) (by decide +kernel)) rfl
theorem mw_365 : (.methodLink R_Law 15 y_LR_parameter : Cond) ∈ tb := tb_t (List.mem_of_getElem? (i := 365) (by decide +kernel)) rfl
theorem mw_366 : (.instanceMethod y_LR_parameter : Cond) ∈ tb := tb_t (List.mem_of_getElem? (i := 366) (by decide +kernel)) rfl
theorem mw_367 : (.selects R_LR y_LR_parameter y_LR_parameter : Cond) ∈ tb := tb_t (List.mem_of_getElem? (i := 367) (by decide +kernel)) rfl
theorem mw_369 : (.methodLink R_LR 36 y_LR_checkParameter : Cond) ∈ tb := tb_t (List.mem_of_getElem? (i := 369) (by decide +kernel)) rfl
theorem mw_370 : (.static y_LR_checkParameter : Cond) ∈ tb := tb_t (List.mem_of_getElem? (i := 370) (by decide +kernel)) rfl
theorem mw_372 : (.classLink R_LR 58 "java/lang/IndexOutOfBoundsException" : Cond) ∈ tb := tb_t (List.mem_of_getElem? (i := 372) (by decide +kernel)) rfl
theorem mw_373 : (.instantiable "java/lang/IndexOutOfBoundsException" 6 : Cond) ∈ tb := tb_t (List.mem_of_getElem? (i := 373) (by decide +kernel)) rfl
theorem mw_375 : (.selects "java/lang/IndexOutOfBoundsException" ⟨"java/lang/Throwable", "fillInStackTrace", "(I)Ljava/lang/Throwable;"⟩ ⟨"java/lang/Throwable", "fillInStackTrace", "(I)Ljava/lang/Throwable;"⟩ : Cond) ∈ tb := tb_t (List.mem_of_getElem? (i := 375) (by decide +kernel)) rfl
theorem mw_382 : (.methodLink R_LR 62 ⟨"java/lang/IndexOutOfBoundsException", "<init>", "(Ljava/lang/String;)V"⟩ : Cond) ∈ tb := tb_t (List.mem_of_getElem? (i := 382) (by decide +kernel)) rfl
theorem mw_383 : (.instanceMethod ⟨"java/lang/IndexOutOfBoundsException", "<init>", "(Ljava/lang/String;)V"⟩ : Cond) ∈ tb := tb_t (List.mem_of_getElem? (i := 383) (by decide +kernel)) rfl
theorem mw_385 : (.methodLink "java/lang/IndexOutOfBoundsException" 7 ⟨"java/lang/RuntimeException", "<init>", "(Ljava/lang/String;)V"⟩ : Cond) ∈ tb := tb_t (List.mem_of_getElem? (i := 385) (by decide +kernel)) rfl
theorem mw_388 : (.methodLink R_Law 74 y_Law_next : Cond) ∈ tb := tb_t (List.mem_of_getElem? (i := 388) (by decide +kernel)) rfl
theorem mw_389 : (.static y_Law_next : Cond) ∈ tb := tb_t (List.mem_of_getElem? (i := 389) (by decide +kernel)) rfl
theorem mw_391 : (.classLink R_Law 24 "java/lang/IllegalArgumentException" : Cond) ∈ tb := tb_t (List.mem_of_getElem? (i := 391) (by decide +kernel)) rfl
theorem mw_392 : (.methodLink R_Law 21 y_LR_next : Cond) ∈ tb := tb_t (List.mem_of_getElem? (i := 392) (by decide +kernel)) rfl
theorem mw_393 : (.instanceMethod y_LR_next : Cond) ∈ tb := tb_t (List.mem_of_getElem? (i := 393) (by decide +kernel)) rfl
theorem mw_394 : (.selects R_LR y_LR_next y_LR_next : Cond) ∈ tb := tb_t (List.mem_of_getElem? (i := 394) (by decide +kernel)) rfl
theorem mw_396 : (.methodLink R_LR 40 y_LR_checkLevel : Cond) ∈ tb := tb_t (List.mem_of_getElem? (i := 396) (by decide +kernel)) rfl
theorem mw_398 : (.instanceMethod y_LR_checkLevel : Cond) ∈ tb := tb_t (List.mem_of_getElem? (i := 398) (by decide +kernel)) rfl
theorem mw_401 : (.methodLink R_Law 77 y_Law_join : Cond) ∈ tb := tb_t (List.mem_of_getElem? (i := 401) (by decide +kernel)) rfl
theorem mw_402 : (.static y_Law_join : Cond) ∈ tb := tb_t (List.mem_of_getElem? (i := 402) (by decide +kernel)) rfl
theorem mw_404 : (.methodLink R_Law 26 y_LR_join : Cond) ∈ tb := tb_t (List.mem_of_getElem? (i := 404) (by decide +kernel)) rfl
theorem mw_405 : (.instanceMethod y_LR_join : Cond) ∈ tb := tb_t (List.mem_of_getElem? (i := 405) (by decide +kernel)) rfl
theorem mw_406 : (.selects R_LR y_LR_join y_LR_join : Cond) ∈ tb := tb_t (List.mem_of_getElem? (i := 406) (by decide +kernel)) rfl
theorem mw_408 : (.methodLink R_Law 86 y_Law_put : Cond) ∈ tb := tb_t (List.mem_of_getElem? (i := 408) (by decide +kernel)) rfl
theorem mw_409 : (.static y_Law_put : Cond) ∈ tb := tb_t (List.mem_of_getElem? (i := 409) (by decide +kernel)) rfl
theorem mw_411 : (.methodLink R_Law 30 y_LR_put : Cond) ∈ tb := tb_t (List.mem_of_getElem? (i := 411) (by decide +kernel)) rfl
theorem mw_412 : (.instanceMethod y_LR_put : Cond) ∈ tb := tb_t (List.mem_of_getElem? (i := 412) (by decide +kernel)) rfl
theorem mw_413 : (.selects R_LR y_LR_put y_LR_put : Cond) ∈ tb := tb_t (List.mem_of_getElem? (i := 413) (by decide +kernel)) rfl
theorem mw_415 : (.methodLink R_LR 51 y_Rp_replaced : Cond) ∈ tb := tb_t (List.mem_of_getElem? (i := 415) (by decide +kernel)) rfl
theorem mw_416 : (.instanceMethod y_Rp_replaced : Cond) ∈ tb := tb_t (List.mem_of_getElem? (i := 416) (by decide +kernel)) rfl
theorem mw_417 : (.selects R_Rp y_Rp_replaced y_Rp_replaced : Cond) ∈ tb := tb_t (List.mem_of_getElem? (i := 417) (by decide +kernel)) rfl
theorem mw_419 : (.methodLink R_Rp 22 y_Rp_resultAhead : Cond) ∈ tb := tb_t (List.mem_of_getElem? (i := 419) (by decide +kernel)) rfl
theorem mw_421 : (.instanceMethod y_Rp_resultAhead : Cond) ∈ tb := tb_t (List.mem_of_getElem? (i := 421) (by decide +kernel)) rfl
theorem mw_423 : (.methodLink R_Rp 33 y_Lv_usesParameter : Cond) ∈ tb := tb_t (List.mem_of_getElem? (i := 423) (by decide +kernel)) rfl
theorem mw_424 : (.instanceMethod y_Lv_usesParameter : Cond) ∈ tb := tb_t (List.mem_of_getElem? (i := 424) (by decide +kernel)) rfl
theorem mw_425 : (.selects R_Lv y_Lv_usesParameter y_Lv_usesParameter : Cond) ∈ tb := tb_t (List.mem_of_getElem? (i := 425) (by decide +kernel)) rfl
theorem mw_427 : (.methodLink R_Rp 39 y_Lv_isParameter : Cond) ∈ tb := tb_t (List.mem_of_getElem? (i := 427) (by decide +kernel)) rfl
theorem mw_428 : (.instanceMethod y_Lv_isParameter : Cond) ∈ tb := tb_t (List.mem_of_getElem? (i := 428) (by decide +kernel)) rfl
theorem mw_429 : (.selects R_Lv y_Lv_isParameter y_Lv_isParameter : Cond) ∈ tb := tb_t (List.mem_of_getElem? (i := 429) (by decide +kernel)) rfl
theorem mw_431 : (.methodLink R_Rp 26 y_Rp_missingPart : Cond) ∈ tb := tb_t (List.mem_of_getElem? (i := 431) (by decide +kernel)) rfl
theorem mw_433 : (.instanceMethod y_Rp_missingPart : Cond) ∈ tb := tb_t (List.mem_of_getElem? (i := 433) (by decide +kernel)) rfl
theorem mw_435 : (.methodLink R_Rp 42 y_Lv_detail : Cond) ∈ tb := tb_t (List.mem_of_getElem? (i := 435) (by decide +kernel)) rfl
theorem mw_436 : (.methodLink R_Rp 30 y_Rp_remade : Cond) ∈ tb := tb_t (List.mem_of_getElem? (i := 436) (by decide +kernel)) rfl
theorem mw_438 : (.instanceMethod y_Rp_remade : Cond) ∈ tb := tb_t (List.mem_of_getElem? (i := 438) (by decide +kernel)) rfl
theorem mw_440 : (.methodLink R_Rp 46 y_Lv_made : Cond) ∈ tb := tb_t (List.mem_of_getElem? (i := 440) (by decide +kernel)) rfl
theorem mw_441 : (.methodLink R_Law 97 y_Law_part : Cond) ∈ tb := tb_t (List.mem_of_getElem? (i := 441) (by decide +kernel)) rfl
theorem mw_442 : (.static y_Law_part : Cond) ∈ tb := tb_t (List.mem_of_getElem? (i := 442) (by decide +kernel)) rfl
theorem mw_444 : (.methodLink R_Law 34 y_LR_part : Cond) ∈ tb := tb_t (List.mem_of_getElem? (i := 444) (by decide +kernel)) rfl
theorem mw_445 : (.instanceMethod y_LR_part : Cond) ∈ tb := tb_t (List.mem_of_getElem? (i := 445) (by decide +kernel)) rfl
theorem mw_446 : (.selects R_LR y_LR_part y_LR_part : Cond) ∈ tb := tb_t (List.mem_of_getElem? (i := 446) (by decide +kernel)) rfl
theorem mw_449 : (.methodLink R_LR 65 y_Lv_partsIn : Cond) ∈ tb := tb_t (List.mem_of_getElem? (i := 449) (by decide +kernel)) rfl
theorem mw_450 : (.methodLink R_LR 71 y_Pt_at : Cond) ∈ tb := tb_t (List.mem_of_getElem? (i := 450) (by decide +kernel)) rfl
theorem mw_451 : (.methodLink R_Law 100 y_Law_isAtMost : Cond) ∈ tb := tb_t (List.mem_of_getElem? (i := 451) (by decide +kernel)) rfl
theorem mw_452 : (.static y_Law_isAtMost : Cond) ∈ tb := tb_t (List.mem_of_getElem? (i := 452) (by decide +kernel)) rfl
theorem mw_454 : (.methodLink R_Law 37 y_LR_isAtMost : Cond) ∈ tb := tb_t (List.mem_of_getElem? (i := 454) (by decide +kernel)) rfl
theorem mw_455 : (.instanceMethod y_LR_isAtMost : Cond) ∈ tb := tb_t (List.mem_of_getElem? (i := 455) (by decide +kernel)) rfl
theorem mw_456 : (.selects R_LR y_LR_isAtMost y_LR_isAtMost : Cond) ∈ tb := tb_t (List.mem_of_getElem? (i := 456) (by decide +kernel)) rfl
theorem mw_458 : (.methodLink R_LR 75 y_Lv_firstRegionAbove : Cond) ∈ tb := tb_t (List.mem_of_getElem? (i := 458) (by decide +kernel)) rfl
theorem mw_459 : (.instanceMethod y_Lv_firstRegionAbove : Cond) ∈ tb := tb_t (List.mem_of_getElem? (i := 459) (by decide +kernel)) rfl
theorem mw_460 : (.selects R_Lv y_Lv_firstRegionAbove y_Lv_firstRegionAbove : Cond) ∈ tb := tb_t (List.mem_of_getElem? (i := 460) (by decide +kernel)) rfl
theorem mw_462 : (.methodLink R_Lv 99 y_Pt_areAtMost : Cond) ∈ tb := tb_t (List.mem_of_getElem? (i := 462) (by decide +kernel)) rfl
theorem mw_463 : (.static y_Pt_areAtMost : Cond) ∈ tb := tb_t (List.mem_of_getElem? (i := 463) (by decide +kernel)) rfl
theorem mw_465 : (.methodLink R_Pt 27 y_Pt_lastHigher : Cond) ∈ tb := tb_t (List.mem_of_getElem? (i := 465) (by decide +kernel)) rfl
theorem mw_466 : (.static y_Pt_lastHigher : Cond) ∈ tb := tb_t (List.mem_of_getElem? (i := 466) (by decide +kernel)) rfl
theorem mw_468 : (.methodLink R_Pt 31 y_Pt_valueAtOnes : Cond) ∈ tb := tb_t (List.mem_of_getElem? (i := 468) (by decide +kernel)) rfl
theorem mw_469 : (.static y_Pt_valueAtOnes : Cond) ∈ tb := tb_t (List.mem_of_getElem? (i := 469) (by decide +kernel)) rfl
theorem mw_471 : (.methodLink R_Law 104 y_Law_isSame : Cond) ∈ tb := tb_t (List.mem_of_getElem? (i := 471) (by decide +kernel)) rfl
theorem mw_472 : (.static y_Law_isSame : Cond) ∈ tb := tb_t (List.mem_of_getElem? (i := 472) (by decide +kernel)) rfl
theorem mw_474 : (.methodLink R_Law 41 y_LR_isSame : Cond) ∈ tb := tb_t (List.mem_of_getElem? (i := 474) (by decide +kernel)) rfl
theorem mw_475 : (.instanceMethod y_LR_isSame : Cond) ∈ tb := tb_t (List.mem_of_getElem? (i := 475) (by decide +kernel)) rfl
theorem mw_476 : (.selects R_LR y_LR_isSame y_LR_isSame : Cond) ∈ tb := tb_t (List.mem_of_getElem? (i := 476) (by decide +kernel)) rfl
theorem mw_478 : (.methodLink R_LR 78 y_Lv_haveSameParts : Cond) ∈ tb := tb_t (List.mem_of_getElem? (i := 478) (by decide +kernel)) rfl
theorem mw_479 : (.instanceMethod y_Lv_haveSameParts : Cond) ∈ tb := tb_t (List.mem_of_getElem? (i := 479) (by decide +kernel)) rfl
theorem mw_480 : (.selects R_Lv y_Lv_haveSameParts y_Lv_haveSameParts : Cond) ∈ tb := tb_t (List.mem_of_getElem? (i := 480) (by decide +kernel)) rfl
theorem mw_482 : (.methodLink R_Law 107 y_Law_least : Cond) ∈ tb := tb_t (List.mem_of_getElem? (i := 482) (by decide +kernel)) rfl
theorem mw_483 : (.static y_Law_least : Cond) ∈ tb := tb_t (List.mem_of_getElem? (i := 483) (by decide +kernel)) rfl
theorem mw_485 : (.methodLink R_Law 44 y_LR_least : Cond) ∈ tb := tb_t (List.mem_of_getElem? (i := 485) (by decide +kernel)) rfl
theorem mw_486 : (.instanceMethod y_LR_least : Cond) ∈ tb := tb_t (List.mem_of_getElem? (i := 486) (by decide +kernel)) rfl
theorem mw_487 : (.selects R_LR y_LR_least y_LR_least : Cond) ∈ tb := tb_t (List.mem_of_getElem? (i := 487) (by decide +kernel)) rfl
theorem mw_489 : (.methodLink R_LR 82 y_Lv_leastLike : Cond) ∈ tb := tb_t (List.mem_of_getElem? (i := 489) (by decide +kernel)) rfl
theorem mw_490 : (.instanceMethod y_Lv_leastLike : Cond) ∈ tb := tb_t (List.mem_of_getElem? (i := 490) (by decide +kernel)) rfl
theorem mw_491 : (.selects R_Lv y_Lv_leastLike y_Lv_leastLike : Cond) ∈ tb := tb_t (List.mem_of_getElem? (i := 491) (by decide +kernel)) rfl
theorem mw_493 : (.methodLink R_Lv 103 y_Lv_haveSameParts : Cond) ∈ tb := tb_t (List.mem_of_getElem? (i := 493) (by decide +kernel)) rfl
theorem mw_494 : (.methodLink R_Law 110 y_Law_above : Cond) ∈ tb := tb_t (List.mem_of_getElem? (i := 494) (by decide +kernel)) rfl
theorem mw_495 : (.static y_Law_above : Cond) ∈ tb := tb_t (List.mem_of_getElem? (i := 495) (by decide +kernel)) rfl
theorem mw_497 : (.methodLink R_Law 47 y_LR_above : Cond) ∈ tb := tb_t (List.mem_of_getElem? (i := 497) (by decide +kernel)) rfl
theorem mw_498 : (.instanceMethod y_LR_above : Cond) ∈ tb := tb_t (List.mem_of_getElem? (i := 498) (by decide +kernel)) rfl
theorem mw_499 : (.selects R_LR y_LR_above y_LR_above : Cond) ∈ tb := tb_t (List.mem_of_getElem? (i := 499) (by decide +kernel)) rfl
theorem mw_501 : (.constantLong R_LR 86 (-1) : Cond) ∈ tb := tb_t (List.mem_of_getElem? (i := 501) (by decide +kernel)) rfl
theorem mw_502 : (.methodLink R_LR 88 y_Pt_pointAbove : Cond) ∈ tb := tb_t (List.mem_of_getElem? (i := 502) (by decide +kernel)) rfl
theorem mw_503 : (.static y_Pt_pointAbove : Cond) ∈ tb := tb_t (List.mem_of_getElem? (i := 503) (by decide +kernel)) rfl
theorem mw_505 : (.methodLink R_Pt 35 y_Pt_onesOf : Cond) ∈ tb := tb_t (List.mem_of_getElem? (i := 505) (by decide +kernel)) rfl
theorem mw_506 : (.static y_Pt_onesOf : Cond) ∈ tb := tb_t (List.mem_of_getElem? (i := 506) (by decide +kernel)) rfl
theorem mw_508 : (.methodLink R_Law 113 y_Law_unknown : Cond) ∈ tb := tb_t (List.mem_of_getElem? (i := 508) (by decide +kernel)) rfl
theorem mw_509 : (.static y_Law_unknown : Cond) ∈ tb := tb_t (List.mem_of_getElem? (i := 509) (by decide +kernel)) rfl
theorem mw_511 : (.methodLink R_Law 51 y_LR_unknown : Cond) ∈ tb := tb_t (List.mem_of_getElem? (i := 511) (by decide +kernel)) rfl
theorem mw_512 : (.instanceMethod y_LR_unknown : Cond) ∈ tb := tb_t (List.mem_of_getElem? (i := 512) (by decide +kernel)) rfl
theorem mw_513 : (.selects R_LR y_LR_unknown y_LR_unknown : Cond) ∈ tb := tb_t (List.mem_of_getElem? (i := 513) (by decide +kernel)) rfl
theorem mw_515 : (.classLink R_LR 96 "java/lang/IllegalStateException" : Cond) ∈ tb := tb_t (List.mem_of_getElem? (i := 515) (by decide +kernel)) rfl
theorem mw_517 : (.methodLink R_LR 100 ⟨"java/lang/IllegalStateException", "<init>", "(Ljava/lang/String;)V"⟩ : Cond) ∈ tb := tb_t (List.mem_of_getElem? (i := 517) (by decide +kernel)) rfl
theorem mw_518 : (.methodLink R_LR 101 y_Nd_addUnknown : Cond) ∈ tb := tb_t (List.mem_of_getElem? (i := 518) (by decide +kernel)) rfl
theorem mw_519 : (.instanceMethod y_Nd_addUnknown : Cond) ∈ tb := tb_t (List.mem_of_getElem? (i := 519) (by decide +kernel)) rfl
theorem mw_520 : (.selects R_Nd y_Nd_addUnknown y_Nd_addUnknown : Cond) ∈ tb := tb_t (List.mem_of_getElem? (i := 520) (by decide +kernel)) rfl
theorem mw_522 : (.methodLink R_Law 116 y_Law_need : Cond) ∈ tb := tb_t (List.mem_of_getElem? (i := 522) (by decide +kernel)) rfl
theorem mw_523 : (.static y_Law_need : Cond) ∈ tb := tb_t (List.mem_of_getElem? (i := 523) (by decide +kernel)) rfl
theorem mw_525 : (.methodLink R_Law 54 y_LR_need : Cond) ∈ tb := tb_t (List.mem_of_getElem? (i := 525) (by decide +kernel)) rfl
theorem mw_526 : (.instanceMethod y_LR_need : Cond) ∈ tb := tb_t (List.mem_of_getElem? (i := 526) (by decide +kernel)) rfl
theorem mw_527 : (.selects R_LR y_LR_need y_LR_need : Cond) ∈ tb := tb_t (List.mem_of_getElem? (i := 527) (by decide +kernel)) rfl
theorem mw_529 : (.methodLink R_LR 104 y_Nd_isSide : Cond) ∈ tb := tb_t (List.mem_of_getElem? (i := 529) (by decide +kernel)) rfl
theorem mw_530 : (.instanceMethod y_Nd_isSide : Cond) ∈ tb := tb_t (List.mem_of_getElem? (i := 530) (by decide +kernel)) rfl
theorem mw_531 : (.selects R_Nd y_Nd_isSide y_Nd_isSide : Cond) ∈ tb := tb_t (List.mem_of_getElem? (i := 531) (by decide +kernel)) rfl
theorem mw_534 : (.classLink R_LR 109 "java/lang/IllegalArgumentException" : Cond) ∈ tb := tb_t (List.mem_of_getElem? (i := 534) (by decide +kernel)) rfl
theorem mw_536 : (.methodLink R_LR 113 ⟨"java/lang/IllegalArgumentException", "<init>", "(Ljava/lang/String;)V"⟩ : Cond) ∈ tb := tb_t (List.mem_of_getElem? (i := 536) (by decide +kernel)) rfl
theorem mw_538 : (.methodLink R_LR 119 y_Nd_add : Cond) ∈ tb := tb_t (List.mem_of_getElem? (i := 538) (by decide +kernel)) rfl
theorem mw_539 : (.instanceMethod y_Nd_add : Cond) ∈ tb := tb_t (List.mem_of_getElem? (i := 539) (by decide +kernel)) rfl
theorem mw_540 : (.selects R_Nd y_Nd_add y_Nd_add : Cond) ∈ tb := tb_t (List.mem_of_getElem? (i := 540) (by decide +kernel)) rfl
theorem mw_542 : (.classLink R_Law 58 R_Mo : Cond) ∈ tb := tb_t (List.mem_of_getElem? (i := 542) (by decide +kernel)) rfl
theorem mw_543 : (.instantiable R_Mo 17 : Cond) ∈ tb := tb_t (List.mem_of_getElem? (i := 543) (by decide +kernel)) rfl
theorem mw_544 : (.methodLink R_Law 60 y_Mo_init : Cond) ∈ tb := tb_t (List.mem_of_getElem? (i := 544) (by decide +kernel)) rfl
theorem mw_545 : (.instanceMethod y_Mo_init : Cond) ∈ tb := tb_t (List.mem_of_getElem? (i := 545) (by decide +kernel)) rfl
theorem mw_547 : (.methodLink R_Mo 1 ⟨"java/lang/Object", "<init>", "()V"⟩ : Cond) ∈ tb := tb_t (List.mem_of_getElem? (i := 547) (by decide +kernel)) rfl
theorem mw_548 : (.fieldLink R_Mo 50 R_Mo "thrown" "I" : Cond) ∈ tb := tb_t (List.mem_of_getElem? (i := 548) (by decide +kernel)) rfl
theorem mw_549 : (.fieldLink R_Mo 7 R_Mo "kinds" "[I" : Cond) ∈ tb := tb_t (List.mem_of_getElem? (i := 549) (by decide +kernel)) rfl
theorem mw_550 : (.fieldLink R_Mo 13 R_Mo "firsts" "[I" : Cond) ∈ tb := tb_t (List.mem_of_getElem? (i := 550) (by decide +kernel)) rfl
theorem mw_551 : (.fieldLink R_Mo 16 R_Mo "seconds" "[I" : Cond) ∈ tb := tb_t (List.mem_of_getElem? (i := 551) (by decide +kernel)) rfl
theorem mw_552 : (.fieldLink R_Mo 19 R_Mo "deeps" "[I" : Cond) ∈ tb := tb_t (List.mem_of_getElem? (i := 552) (by decide +kernel)) rfl
theorem mw_553 : (.fieldLink R_Mo 54 R_Mo "levels" "I" : Cond) ∈ tb := tb_t (List.mem_of_getElem? (i := 553) (by decide +kernel)) rfl
theorem mw_554 : (.fieldLink R_Mo 22 R_Mo "numbers" "[I" : Cond) ∈ tb := tb_t (List.mem_of_getElem? (i := 554) (by decide +kernel)) rfl
theorem mw_555 : (.fieldLink R_Mo 25 R_Mo "values" "[I" : Cond) ∈ tb := tb_t (List.mem_of_getElem? (i := 555) (by decide +kernel)) rfl
theorem mw_556 : (.fieldLink R_Mo 28 R_Mo "becomes" "[I" : Cond) ∈ tb := tb_t (List.mem_of_getElem? (i := 556) (by decide +kernel)) rfl
theorem mw_557 : (.fieldLink R_Mo 31 R_Mo "waits" "[I" : Cond) ∈ tb := tb_t (List.mem_of_getElem? (i := 557) (by decide +kernel)) rfl
theorem mw_558 : (.fieldLink R_Mo 34 R_Mo "lefts" "[I" : Cond) ∈ tb := tb_t (List.mem_of_getElem? (i := 558) (by decide +kernel)) rfl
theorem mw_559 : (.fieldLink R_Mo 37 R_Mo "adds" "[I" : Cond) ∈ tb := tb_t (List.mem_of_getElem? (i := 559) (by decide +kernel)) rfl
theorem mw_560 : (.fieldLink R_Mo 40 R_Mo "rights" "[I" : Cond) ∈ tb := tb_t (List.mem_of_getElem? (i := 560) (by decide +kernel)) rfl
theorem mw_561 : (.fieldLink R_Mo 43 R_Mo "unknown" "[I" : Cond) ∈ tb := tb_t (List.mem_of_getElem? (i := 561) (by decide +kernel)) rfl
theorem mw_562 : (.fieldLink R_Mo 46 R_Mo "counts" "[Z" : Cond) ∈ tb := tb_t (List.mem_of_getElem? (i := 562) (by decide +kernel)) rfl
theorem mw_563 : (.fieldLink R_Mo 102 R_Mo "unknowns" "I" : Cond) ∈ tb := tb_t (List.mem_of_getElem? (i := 563) (by decide +kernel)) rfl
theorem mw_564 : (.fieldLink R_Mo 108 R_Mo "needs" "I" : Cond) ∈ tb := tb_t (List.mem_of_getElem? (i := 564) (by decide +kernel)) rfl
theorem mw_600 : (.methodLink R_Law 67 y_Mo_thrown : Cond) ∈ tb := tb_t (List.mem_of_getElem? (i := 600) (by decide +kernel)) rfl
theorem mw_601 : (.instanceMethod y_Mo_thrown : Cond) ∈ tb := tb_t (List.mem_of_getElem? (i := 601) (by decide +kernel)) rfl
theorem mw_602 : (.selects R_Mo y_Mo_thrown y_Mo_thrown : Cond) ∈ tb := tb_t (List.mem_of_getElem? (i := 602) (by decide +kernel)) rfl
theorem mw_604 : (.methodLink R_Law 66 y_Mo_zero : Cond) ∈ tb := tb_t (List.mem_of_getElem? (i := 604) (by decide +kernel)) rfl
theorem mw_605 : (.instanceMethod y_Mo_zero : Cond) ∈ tb := tb_t (List.mem_of_getElem? (i := 605) (by decide +kernel)) rfl
theorem mw_606 : (.selects R_Mo y_Mo_zero y_Mo_zero : Cond) ∈ tb := tb_t (List.mem_of_getElem? (i := 606) (by decide +kernel)) rfl
theorem mw_608 : (.methodLink R_Mo 61 y_Mo_made : Cond) ∈ tb := tb_t (List.mem_of_getElem? (i := 608) (by decide +kernel)) rfl
theorem mw_610 : (.instanceMethod y_Mo_made : Cond) ∈ tb := tb_t (List.mem_of_getElem? (i := 610) (by decide +kernel)) rfl
theorem mw_612 : (.methodLink R_Mo 57 y_Mo_make : Cond) ∈ tb := tb_t (List.mem_of_getElem? (i := 612) (by decide +kernel)) rfl
theorem mw_614 : (.instanceMethod y_Mo_make : Cond) ∈ tb := tb_t (List.mem_of_getElem? (i := 614) (by decide +kernel)) rfl
theorem mw_616 : (.methodLink R_Law 73 y_Mo_parameter : Cond) ∈ tb := tb_t (List.mem_of_getElem? (i := 616) (by decide +kernel)) rfl
theorem mw_617 : (.instanceMethod y_Mo_parameter : Cond) ∈ tb := tb_t (List.mem_of_getElem? (i := 617) (by decide +kernel)) rfl
theorem mw_618 : (.selects R_Mo y_Mo_parameter y_Mo_parameter : Cond) ∈ tb := tb_t (List.mem_of_getElem? (i := 618) (by decide +kernel)) rfl
theorem mw_620 : (.methodLink R_Mo 65 y_Mo_refuses : Cond) ∈ tb := tb_t (List.mem_of_getElem? (i := 620) (by decide +kernel)) rfl
theorem mw_622 : (.instanceMethod y_Mo_refuses : Cond) ∈ tb := tb_t (List.mem_of_getElem? (i := 622) (by decide +kernel)) rfl
theorem mw_624 : (.methodLink R_Law 76 y_Mo_next : Cond) ∈ tb := tb_t (List.mem_of_getElem? (i := 624) (by decide +kernel)) rfl
theorem mw_625 : (.instanceMethod y_Mo_next : Cond) ∈ tb := tb_t (List.mem_of_getElem? (i := 625) (by decide +kernel)) rfl
theorem mw_626 : (.selects R_Mo y_Mo_next y_Mo_next : Cond) ∈ tb := tb_t (List.mem_of_getElem? (i := 626) (by decide +kernel)) rfl
theorem mw_628 : (.methodLink R_Mo 69 y_Mo_isLevel : Cond) ∈ tb := tb_t (List.mem_of_getElem? (i := 628) (by decide +kernel)) rfl
theorem mw_630 : (.instanceMethod y_Mo_isLevel : Cond) ∈ tb := tb_t (List.mem_of_getElem? (i := 630) (by decide +kernel)) rfl
theorem mw_632 : (.methodLink R_Law 80 y_Mo_join : Cond) ∈ tb := tb_t (List.mem_of_getElem? (i := 632) (by decide +kernel)) rfl
theorem mw_633 : (.instanceMethod y_Mo_join : Cond) ∈ tb := tb_t (List.mem_of_getElem? (i := 633) (by decide +kernel)) rfl
theorem mw_634 : (.selects R_Mo y_Mo_join y_Mo_join : Cond) ∈ tb := tb_t (List.mem_of_getElem? (i := 634) (by decide +kernel)) rfl
theorem mw_636 : (.methodLink R_Law 85 y_Mo_level : Cond) ∈ tb := tb_t (List.mem_of_getElem? (i := 636) (by decide +kernel)) rfl
theorem mw_637 : (.instanceMethod y_Mo_level : Cond) ∈ tb := tb_t (List.mem_of_getElem? (i := 637) (by decide +kernel)) rfl
theorem mw_638 : (.selects R_Mo y_Mo_level y_Mo_level : Cond) ∈ tb := tb_t (List.mem_of_getElem? (i := 638) (by decide +kernel)) rfl
theorem mw_640 : (.methodLink R_Law 89 y_Mo_put : Cond) ∈ tb := tb_t (List.mem_of_getElem? (i := 640) (by decide +kernel)) rfl
theorem mw_641 : (.instanceMethod y_Mo_put : Cond) ∈ tb := tb_t (List.mem_of_getElem? (i := 641) (by decide +kernel)) rfl
theorem mw_642 : (.selects R_Mo y_Mo_put y_Mo_put : Cond) ∈ tb := tb_t (List.mem_of_getElem? (i := 642) (by decide +kernel)) rfl
theorem mw_644 : (.methodLink R_Mo 72 y_Mo_changed : Cond) ∈ tb := tb_t (List.mem_of_getElem? (i := 644) (by decide +kernel)) rfl
theorem mw_646 : (.instanceMethod y_Mo_changed : Cond) ∈ tb := tb_t (List.mem_of_getElem? (i := 646) (by decide +kernel)) rfl
theorem mw_648 : (.methodLink R_Law 96 y_Mo_value : Cond) ∈ tb := tb_t (List.mem_of_getElem? (i := 648) (by decide +kernel)) rfl
theorem mw_649 : (.instanceMethod y_Mo_value : Cond) ∈ tb := tb_t (List.mem_of_getElem? (i := 649) (by decide +kernel)) rfl
theorem mw_650 : (.selects R_Mo y_Mo_value y_Mo_value : Cond) ∈ tb := tb_t (List.mem_of_getElem? (i := 650) (by decide +kernel)) rfl
theorem mw_652 : (.constantLong R_Mo 76 4095 : Cond) ∈ tb := tb_t (List.mem_of_getElem? (i := 652) (by decide +kernel)) rfl
theorem mw_653 : (.methodLink R_Mo 78 y_Mo_reckon : Cond) ∈ tb := tb_t (List.mem_of_getElem? (i := 653) (by decide +kernel)) rfl
theorem mw_655 : (.instanceMethod y_Mo_reckon : Cond) ∈ tb := tb_t (List.mem_of_getElem? (i := 655) (by decide +kernel)) rfl
theorem mw_657 : (.methodLink R_Law 99 y_Mo_part : Cond) ∈ tb := tb_t (List.mem_of_getElem? (i := 657) (by decide +kernel)) rfl
theorem mw_658 : (.instanceMethod y_Mo_part : Cond) ∈ tb := tb_t (List.mem_of_getElem? (i := 658) (by decide +kernel)) rfl
theorem mw_659 : (.selects R_Mo y_Mo_part y_Mo_part : Cond) ∈ tb := tb_t (List.mem_of_getElem? (i := 659) (by decide +kernel)) rfl
theorem mw_661 : (.methodLink R_Mo 85 y_Mo_growth : Cond) ∈ tb := tb_t (List.mem_of_getElem? (i := 661) (by decide +kernel)) rfl
theorem mw_663 : (.instanceMethod y_Mo_growth : Cond) ∈ tb := tb_t (List.mem_of_getElem? (i := 663) (by decide +kernel)) rfl
theorem mw_665 : (.methodLink R_Mo 81 y_Mo_rest : Cond) ∈ tb := tb_t (List.mem_of_getElem? (i := 665) (by decide +kernel)) rfl
theorem mw_667 : (.instanceMethod y_Mo_rest : Cond) ∈ tb := tb_t (List.mem_of_getElem? (i := 667) (by decide +kernel)) rfl
theorem mw_669 : (.methodLink R_Law 103 y_Mo_isAtMost : Cond) ∈ tb := tb_t (List.mem_of_getElem? (i := 669) (by decide +kernel)) rfl
theorem mw_670 : (.instanceMethod y_Mo_isAtMost : Cond) ∈ tb := tb_t (List.mem_of_getElem? (i := 670) (by decide +kernel)) rfl
theorem mw_671 : (.selects R_Mo y_Mo_isAtMost y_Mo_isAtMost : Cond) ∈ tb := tb_t (List.mem_of_getElem? (i := 671) (by decide +kernel)) rfl
theorem mw_673 : (.methodLink R_Mo 92 y_Mo_regionOf : Cond) ∈ tb := tb_t (List.mem_of_getElem? (i := 673) (by decide +kernel)) rfl
theorem mw_675 : (.instanceMethod y_Mo_regionOf : Cond) ∈ tb := tb_t (List.mem_of_getElem? (i := 675) (by decide +kernel)) rfl
theorem mw_677 : (.methodLink R_Mo 88 y_Mo_goesOn : Cond) ∈ tb := tb_t (List.mem_of_getElem? (i := 677) (by decide +kernel)) rfl
theorem mw_679 : (.instanceMethod y_Mo_goesOn : Cond) ∈ tb := tb_t (List.mem_of_getElem? (i := 679) (by decide +kernel)) rfl
theorem mw_681 : (.methodLink R_Law 106 y_Mo_isSame : Cond) ∈ tb := tb_t (List.mem_of_getElem? (i := 681) (by decide +kernel)) rfl
theorem mw_682 : (.instanceMethod y_Mo_isSame : Cond) ∈ tb := tb_t (List.mem_of_getElem? (i := 682) (by decide +kernel)) rfl
theorem mw_683 : (.selects R_Mo y_Mo_isSame y_Mo_isSame : Cond) ∈ tb := tb_t (List.mem_of_getElem? (i := 683) (by decide +kernel)) rfl
theorem mw_685 : (.methodLink R_Mo 96 y_Mo_isSameLevel : Cond) ∈ tb := tb_t (List.mem_of_getElem? (i := 685) (by decide +kernel)) rfl
theorem mw_687 : (.instanceMethod y_Mo_isSameLevel : Cond) ∈ tb := tb_t (List.mem_of_getElem? (i := 687) (by decide +kernel)) rfl
theorem mw_689 : (.methodLink R_Law 109 y_Mo_least : Cond) ∈ tb := tb_t (List.mem_of_getElem? (i := 689) (by decide +kernel)) rfl
theorem mw_690 : (.instanceMethod y_Mo_least : Cond) ∈ tb := tb_t (List.mem_of_getElem? (i := 690) (by decide +kernel)) rfl
theorem mw_691 : (.selects R_Mo y_Mo_least y_Mo_least : Cond) ∈ tb := tb_t (List.mem_of_getElem? (i := 691) (by decide +kernel)) rfl
theorem mw_693 : (.methodLink R_Law 112 y_Mo_above : Cond) ∈ tb := tb_t (List.mem_of_getElem? (i := 693) (by decide +kernel)) rfl
theorem mw_694 : (.instanceMethod y_Mo_above : Cond) ∈ tb := tb_t (List.mem_of_getElem? (i := 694) (by decide +kernel)) rfl
theorem mw_695 : (.selects R_Mo y_Mo_above y_Mo_above : Cond) ∈ tb := tb_t (List.mem_of_getElem? (i := 695) (by decide +kernel)) rfl
theorem mw_697 : (.constantLong R_Mo 100 (-1) : Cond) ∈ tb := tb_t (List.mem_of_getElem? (i := 697) (by decide +kernel)) rfl
theorem mw_698 : (.methodLink R_Law 115 y_Mo_unknown : Cond) ∈ tb := tb_t (List.mem_of_getElem? (i := 698) (by decide +kernel)) rfl
theorem mw_699 : (.instanceMethod y_Mo_unknown : Cond) ∈ tb := tb_t (List.mem_of_getElem? (i := 699) (by decide +kernel)) rfl
theorem mw_700 : (.selects R_Mo y_Mo_unknown y_Mo_unknown : Cond) ∈ tb := tb_t (List.mem_of_getElem? (i := 700) (by decide +kernel)) rfl
theorem mw_702 : (.methodLink R_Law 118 y_Mo_need : Cond) ∈ tb := tb_t (List.mem_of_getElem? (i := 702) (by decide +kernel)) rfl
theorem mw_703 : (.instanceMethod y_Mo_need : Cond) ∈ tb := tb_t (List.mem_of_getElem? (i := 703) (by decide +kernel)) rfl
theorem mw_704 : (.selects R_Mo y_Mo_need y_Mo_need : Cond) ∈ tb := tb_t (List.mem_of_getElem? (i := 704) (by decide +kernel)) rfl
theorem mw_706 : (.methodLink R_Mo 105 y_Mo_isSide : Cond) ∈ tb := tb_t (List.mem_of_getElem? (i := 706) (by decide +kernel)) rfl
theorem mw_708 : (.instanceMethod y_Mo_isSide : Cond) ∈ tb := tb_t (List.mem_of_getElem? (i := 708) (by decide +kernel)) rfl
theorem mw_710 : (.methodLink R_Law 123 y_Mo_isSolved : Cond) ∈ tb := tb_t (List.mem_of_getElem? (i := 710) (by decide +kernel)) rfl
theorem mw_711 : (.instanceMethod y_Mo_isSolved : Cond) ∈ tb := tb_t (List.mem_of_getElem? (i := 711) (by decide +kernel)) rfl
theorem mw_712 : (.selects R_Mo y_Mo_isSolved y_Mo_isSolved : Cond) ∈ tb := tb_t (List.mem_of_getElem? (i := 712) (by decide +kernel)) rfl
theorem mw_714 : (.methodLink R_Mo 115 y_Mo_solvesAll : Cond) ∈ tb := tb_t (List.mem_of_getElem? (i := 714) (by decide +kernel)) rfl
theorem mw_716 : (.instanceMethod y_Mo_solvesAll : Cond) ∈ tb := tb_t (List.mem_of_getElem? (i := 716) (by decide +kernel)) rfl
theorem mw_718 : (.methodLink R_Mo 111 y_Mo_solves : Cond) ∈ tb := tb_t (List.mem_of_getElem? (i := 718) (by decide +kernel)) rfl
theorem mw_720 : (.instanceMethod y_Mo_solves : Cond) ∈ tb := tb_t (List.mem_of_getElem? (i := 720) (by decide +kernel)) rfl
theorem mw_722 : (.methodLink R_Law 127 y_Mo_solution : Cond) ∈ tb := tb_t (List.mem_of_getElem? (i := 722) (by decide +kernel)) rfl
theorem mw_723 : (.instanceMethod y_Mo_solution : Cond) ∈ tb := tb_t (List.mem_of_getElem? (i := 723) (by decide +kernel)) rfl
theorem mw_724 : (.selects R_Mo y_Mo_solution y_Mo_solution : Cond) ∈ tb := tb_t (List.mem_of_getElem? (i := 724) (by decide +kernel)) rfl
theorem mw_726 : (.methodLink R_Law 132 y_Mo_isClash : Cond) ∈ tb := tb_t (List.mem_of_getElem? (i := 726) (by decide +kernel)) rfl
theorem mw_727 : (.instanceMethod y_Mo_isClash : Cond) ∈ tb := tb_t (List.mem_of_getElem? (i := 727) (by decide +kernel)) rfl
theorem mw_728 : (.selects R_Mo y_Mo_isClash y_Mo_isClash : Cond) ∈ tb := tb_t (List.mem_of_getElem? (i := 728) (by decide +kernel)) rfl
theorem mw_730 : (.methodLink R_Law 136 y_Mo_undo : Cond) ∈ tb := tb_t (List.mem_of_getElem? (i := 730) (by decide +kernel)) rfl
theorem mw_731 : (.instanceMethod y_Mo_undo : Cond) ∈ tb := tb_t (List.mem_of_getElem? (i := 731) (by decide +kernel)) rfl
theorem mw_732 : (.selects R_Mo y_Mo_undo y_Mo_undo : Cond) ∈ tb := tb_t (List.mem_of_getElem? (i := 732) (by decide +kernel)) rfl
theorem mw_734 : (.methodLink R_Law 140 y_Mo_about : Cond) ∈ tb := tb_t (List.mem_of_getElem? (i := 734) (by decide +kernel)) rfl
theorem mw_735 : (.instanceMethod y_Mo_about : Cond) ∈ tb := tb_t (List.mem_of_getElem? (i := 735) (by decide +kernel)) rfl
theorem mw_736 : (.selects R_Mo y_Mo_about y_Mo_about : Cond) ∈ tb := tb_t (List.mem_of_getElem? (i := 736) (by decide +kernel)) rfl
theorem mw_738 : (.constantLong R_Law 90 4294967295 : Cond) ∈ tb := tb_t (List.mem_of_getElem? (i := 738) (by decide +kernel)) rfl
theorem mw_739 : (.sameMethod "java/lang/Throwable" "java/lang/Throwable" "fillInStackTrace" "(I)Ljava/lang/Throwable;" : Cond) ∈ tb := tb_t (List.mem_of_getElem? (i := 739) (by decide +kernel)) rfl
set_option maxRecDepth 100000 in
theorem mc_max : Cond.code Lib.Math.max.name Lib.Math.max.code 2 (some .int) ∈ tb := tb_t (List.mem_of_getElem? (i := 146) (by rfl)) rfl
theorem mp_0 : (.selects R_Lv y_Lv_valueOf y_Lv_valueOf : Cond) ∈ tb := tb_s (by decide +kernel) rfl
theorem mp_1 : (.selects R_Nd y_Nd_keepAll y_Nd_keepAll : Cond) ∈ tb := tb_s (by decide +kernel) rfl
theorem mp_2 : (.selects R_Nd y_Nd_canKeptBeSolved y_Nd_canKeptBeSolved : Cond) ∈ tb := tb_s (by decide +kernel) rfl
theorem mp_3 : (.selects R_Nd y_Nd_raiseNumbers y_Nd_raiseNumbers : Cond) ∈ tb := tb_s (by decide +kernel) rfl
theorem mp_4 : (.selects R_Nd y_Nd_isUnknown y_Nd_isUnknown : Cond) ∈ tb := tb_s (by decide +kernel) rfl
theorem mp_5 : (.selects R_Nd y_Nd_keepClashOnly y_Nd_keepClashOnly : Cond) ∈ tb := tb_s (by decide +kernel) rfl
theorem mp_6 : (.selects R_Nd y_Nd_forget y_Nd_forget : Cond) ∈ tb := tb_s (by decide +kernel) rfl
theorem mp_7 : (.selects R_Lv y_Lv_find y_Lv_find : Cond) ∈ tb := tb_s (by decide +kernel) rfl
theorem mp_8 : (.selects R_Lv y_Lv_checkNew y_Lv_checkNew : Cond) ∈ tb := tb_s (by decide +kernel) rfl
theorem mp_9 : (.selects "java/lang/Throwable" ⟨"java/lang/Throwable", "fillInStackTrace", "(I)Ljava/lang/Throwable;"⟩ ⟨"java/lang/Throwable", "fillInStackTrace", "(I)Ljava/lang/Throwable;"⟩ : Cond) ∈ tb := tb_s (by decide +kernel) rfl
theorem mp_10 : (.selects R_Lv y_Lv_nextsOf y_Lv_nextsOf : Cond) ∈ tb := tb_s (by decide +kernel) rfl
theorem mp_11 : (.selects R_Lv y_Lv_usesOf y_Lv_usesOf : Cond) ∈ tb := tb_s (by decide +kernel) rfl
theorem mp_12 : (.selects R_Lv y_Lv_partsOf y_Lv_partsOf : Cond) ∈ tb := tb_s (by decide +kernel) rfl
theorem mp_13 : (.selects R_LR y_LR_checkLevel y_LR_checkLevel : Cond) ∈ tb := tb_s (by decide +kernel) rfl
theorem mp_14 : (.selects R_Rp y_Rp_resultAhead y_Rp_resultAhead : Cond) ∈ tb := tb_s (by decide +kernel) rfl
theorem mp_15 : (.selects R_Rp y_Rp_missingPart y_Rp_missingPart : Cond) ∈ tb := tb_s (by decide +kernel) rfl
theorem mp_16 : (.selects R_Rp y_Rp_remade y_Rp_remade : Cond) ∈ tb := tb_s (by decide +kernel) rfl
theorem mp_17 : (.selects R_Mo y_Mo_made y_Mo_made : Cond) ∈ tb := tb_s (by decide +kernel) rfl
theorem mp_18 : (.selects R_Mo y_Mo_make y_Mo_make : Cond) ∈ tb := tb_s (by decide +kernel) rfl
theorem mp_19 : (.selects R_Mo y_Mo_refuses y_Mo_refuses : Cond) ∈ tb := tb_s (by decide +kernel) rfl
theorem mp_20 : (.selects R_Mo y_Mo_isLevel y_Mo_isLevel : Cond) ∈ tb := tb_s (by decide +kernel) rfl
theorem mp_21 : (.selects R_Mo y_Mo_changed y_Mo_changed : Cond) ∈ tb := tb_s (by decide +kernel) rfl
theorem mp_22 : (.selects R_Mo y_Mo_reckon y_Mo_reckon : Cond) ∈ tb := tb_s (by decide +kernel) rfl
theorem mp_23 : (.selects R_Mo y_Mo_growth y_Mo_growth : Cond) ∈ tb := tb_s (by decide +kernel) rfl
theorem mp_24 : (.selects R_Mo y_Mo_rest y_Mo_rest : Cond) ∈ tb := tb_s (by decide +kernel) rfl
theorem mp_25 : (.selects R_Mo y_Mo_regionOf y_Mo_regionOf : Cond) ∈ tb := tb_s (by decide +kernel) rfl
theorem mp_26 : (.selects R_Mo y_Mo_goesOn y_Mo_goesOn : Cond) ∈ tb := tb_s (by decide +kernel) rfl
theorem mp_27 : (.selects R_Mo y_Mo_isSameLevel y_Mo_isSameLevel : Cond) ∈ tb := tb_s (by decide +kernel) rfl
theorem mp_28 : (.selects R_Mo y_Mo_isSide y_Mo_isSide : Cond) ∈ tb := tb_s (by decide +kernel) rfl
theorem mp_29 : (.selects R_Mo y_Mo_solvesAll y_Mo_solvesAll : Cond) ∈ tb := tb_s (by decide +kernel) rfl
theorem mp_30 : (.selects R_Mo y_Mo_solves y_Mo_solves : Cond) ∈ tb := tb_s (by decide +kernel) rfl
