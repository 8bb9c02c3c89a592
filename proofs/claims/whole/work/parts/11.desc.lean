/-! the methods, the fields, by their places; rules again over a triple of cells -/
abbrev M_X0_init : kMd := (yX0_init, cX0_init, 2, none)
theorem q_X0_init : k_qI M_X0_init 1 := ⟨⟨co_X0_init, in_X0, by decide +kernel, by decide +kernel, by decide⟩, im_X0_init, rfl, rfl⟩
abbrev M_X0_begin : kMd := (yX0_begin, cX0_begin, 2, none)
theorem q_X0_begin : k_qV M_X0_begin 1 := ⟨⟨co_X0_begin, in_X0, by decide +kernel, by decide +kernel, by decide⟩, im_X0_begin, se_X0_begin⟩
abbrev M_X0_shortenHooks : kMd := (yX0_shortenHooks, cX0_shortenHooks, 3, none)
theorem q_X0_shortenHooks : k_qV M_X0_shortenHooks 1 := ⟨⟨co_X0_shortenHooks, in_X0, by decide +kernel, by decide +kernel, by decide⟩, im_X0_shortenHooks, se_X0_shortenHooks⟩
abbrev M_X0_goTo : kMd := (yX0_goTo, cX0_goTo, 3, none)
theorem q_X0_goTo : k_qV M_X0_goTo 1 := ⟨⟨co_X0_goTo, in_X0, by decide +kernel, by decide +kernel, by decide⟩, im_X0_goTo, se_X0_goTo⟩
abbrev M_X0_isOver : kMd := (yX0_isOver, cX0_isOver, 1, (some .boolean))
theorem q_X0_isOver : k_qV M_X0_isOver 0 := ⟨⟨co_X0_isOver, in_X0, by decide +kernel, by decide +kernel, by decide⟩, im_X0_isOver, se_X0_isOver⟩
abbrev M_X0_firstDayAllWarm : kMd := (yX0_firstDayAllWarm, cX0_firstDayAllWarm, 2, (some .int))
theorem q_X0_firstDayAllWarm : k_qV M_X0_firstDayAllWarm 0 := ⟨⟨co_X0_firstDayAllWarm, in_X0, by decide +kernel, by decide +kernel, by decide⟩, im_X0_firstDayAllWarm, se_X0_firstDayAllWarm⟩
abbrev M_X0_goThroughStorm : kMd := (yX0_goThroughStorm, cX0_goThroughStorm, 4, none)
theorem q_X0_goThroughStorm : k_qV M_X0_goThroughStorm 2 := ⟨⟨co_X0_goThroughStorm, in_X0, by decide +kernel, by decide +kernel, by decide⟩, im_X0_goThroughStorm, se_X0_goThroughStorm⟩
abbrev M_X0_draw : kMd := (yX0_draw, cX0_draw, 4, (some .int))
theorem q_X0_draw : k_qS M_X0_draw 2 := ⟨⟨co_X0_draw, in_X0, by decide +kernel, by decide +kernel, by decide⟩, st_X0_draw⟩
abbrev M_X0_blow : kMd := (yX0_blow, cX0_blow, 3, none)
theorem q_X0_blow : k_qV M_X0_blow 1 := ⟨⟨co_X0_blow, in_X0, by decide +kernel, by decide +kernel, by decide⟩, im_X0_blow, se_X0_blow⟩
abbrev M_X0_gatherToday : kMd := (yX0_gatherToday, cX0_gatherToday, 3, none)
theorem q_X0_gatherToday : k_qV M_X0_gatherToday 0 := ⟨⟨co_X0_gatherToday, in_X0, by decide +kernel, by decide +kernel, by decide⟩, im_X0_gatherToday, se_X0_gatherToday⟩
abbrev M_X1_init : kMd := (yX1_init, cX1_init, 2, none)
theorem q_X1_init : k_qI M_X1_init 1 := ⟨⟨co_X1_init, in_X1, by decide +kernel, by decide +kernel, by decide⟩, im_X1_init, rfl, rfl⟩
abbrev M_X1_whoHas : kMd := (yX1_whoHas, cX1_whoHas, 2, (some .int))
theorem q_X1_whoHas : k_qV M_X1_whoHas 1 := ⟨⟨co_X1_whoHas, in_X1, by decide +kernel, by decide +kernel, by decide⟩, im_X1_whoHas, se_X1_whoHas⟩
abbrev M_X1_find : kMd := (yX1_find, cX1_find, 4, none)
theorem q_X1_find : k_qV M_X1_find 1 := ⟨⟨co_X1_find, in_X1, by decide +kernel, by decide +kernel, by decide⟩, im_X1_find, se_X1_find⟩
abbrev M_X1_takersOf : kMd := (yX1_takersOf, cX1_takersOf, 5, (some .int))
theorem q_X1_takersOf : k_qV M_X1_takersOf 2 := ⟨⟨co_X1_takersOf, in_X1, by decide +kernel, by decide +kernel, by decide⟩, im_X1_takersOf, se_X1_takersOf⟩
abbrev M_X1_deal : kMd := (yX1_deal, cX1_deal, 6, none)
theorem q_X1_deal : k_qS M_X1_deal 4 := ⟨⟨co_X1_deal, in_X1, by decide +kernel, by decide +kernel, by decide⟩, st_X1_deal⟩
abbrev M_X1_keepIfBetter : kMd := (yX1_keepIfBetter, cX1_keepIfBetter, 2, none)
theorem q_X1_keepIfBetter : k_qV M_X1_keepIfBetter 1 := ⟨⟨co_X1_keepIfBetter, in_X1, by decide +kernel, by decide +kernel, by decide⟩, im_X1_keepIfBetter, se_X1_keepIfBetter⟩
abbrev M_X2_init : kMd := (yX2_init, cX2_init, 1, none)
theorem q_X2_init : k_qI M_X2_init 0 := ⟨⟨co_X2_init, in_X2, by decide +kernel, by decide +kernel, by decide⟩, im_X2_init, rfl, rfl⟩
abbrev M_X2_read : kMd := (yX2_read, cX2_read, 6, none)
theorem q_X2_read : k_qV M_X2_read 2 := ⟨⟨co_X2_read, in_X2, by decide +kernel, by decide +kernel, by decide⟩, im_X2_read, se_X2_read⟩
abbrev M_X2_put : kMd := (yX2_put, cX2_put, 4, none)
theorem q_X2_put : k_qV M_X2_put 3 := ⟨⟨co_X2_put, in_X2, by decide +kernel, by decide +kernel, by decide⟩, im_X2_put, se_X2_put⟩
abbrev M_X2_putBough : kMd := (yX2_putBough, cX2_putBough, 3, none)
theorem q_X2_putBough : k_qV M_X2_putBough 2 := ⟨⟨co_X2_putBough, in_X2, by decide +kernel, by decide +kernel, by decide⟩, im_X2_putBough, se_X2_putBough⟩
abbrev M_X2_putTenant : kMd := (yX2_putTenant, cX2_putTenant, 3, none)
theorem q_X2_putTenant : k_qV M_X2_putTenant 2 := ⟨⟨co_X2_putTenant, in_X2, by decide +kernel, by decide +kernel, by decide⟩, im_X2_putTenant, se_X2_putTenant⟩
abbrev M_X2_hasBough : kMd := (yX2_hasBough, cX2_hasBough, 2, (some .boolean))
theorem q_X2_hasBough : k_qV M_X2_hasBough 1 := ⟨⟨co_X2_hasBough, in_X2, by decide +kernel, by decide +kernel, by decide⟩, im_X2_hasBough, se_X2_hasBough⟩
abbrev M_X2_hasTenant : kMd := (yX2_hasTenant, cX2_hasTenant, 2, (some .boolean))
theorem q_X2_hasTenant : k_qV M_X2_hasTenant 1 := ⟨⟨co_X2_hasTenant, in_X2, by decide +kernel, by decide +kernel, by decide⟩, im_X2_hasTenant, se_X2_hasTenant⟩
abbrev M_X2_kind : kMd := (yX2_kind, cX2_kind, 2, (some .int))
theorem q_X2_kind : k_qV M_X2_kind 1 := ⟨⟨co_X2_kind, in_X2, by decide +kernel, by decide +kernel, by decide⟩, im_X2_kind, se_X2_kind⟩
abbrev M_X2_height : kMd := (yX2_height, cX2_height, 2, (some .int))
theorem q_X2_height : k_qV M_X2_height 1 := ⟨⟨co_X2_height, in_X2, by decide +kernel, by decide +kernel, by decide⟩, im_X2_height, se_X2_height⟩
abbrev M_X2_weight : kMd := (yX2_weight, cX2_weight, 2, (some .int))
theorem q_X2_weight : k_qV M_X2_weight 1 := ⟨⟨co_X2_weight, in_X2, by decide +kernel, by decide +kernel, by decide⟩, im_X2_weight, se_X2_weight⟩
abbrev M_X2_strength : kMd := (yX2_strength, cX2_strength, 2, (some .int))
theorem q_X2_strength : k_qV M_X2_strength 1 := ⟨⟨co_X2_strength, in_X2, by decide +kernel, by decide +kernel, by decide⟩, im_X2_strength, se_X2_strength⟩
abbrev M_X2_hearth : kMd := (yX2_hearth, cX2_hearth, 2, (some .int))
theorem q_X2_hearth : k_qV M_X2_hearth 1 := ⟨⟨co_X2_hearth, in_X2, by decide +kernel, by decide +kernel, by decide⟩, im_X2_hearth, se_X2_hearth⟩
abbrev M_X2_weightOf : kMd := (yX2_weightOf, cX2_weightOf, 4, (some .int))
theorem q_X2_weightOf : k_qV M_X2_weightOf 1 := ⟨⟨co_X2_weightOf, in_X2, by decide +kernel, by decide +kernel, by decide⟩, im_X2_weightOf, se_X2_weightOf⟩
abbrev M_X2_isDead : kMd := (yX2_isDead, cX2_isDead, 4, (some .boolean))
theorem q_X2_isDead : k_qV M_X2_isDead 3 := ⟨⟨co_X2_isDead, in_X2, by decide +kernel, by decide +kernel, by decide⟩, im_X2_isDead, se_X2_isDead⟩
abbrev M_X2_hasFallen : kMd := (yX2_hasFallen, cX2_hasFallen, 4, (some .boolean))
theorem q_X2_hasFallen : k_qV M_X2_hasFallen 3 := ⟨⟨co_X2_hasFallen, in_X2, by decide +kernel, by decide +kernel, by decide⟩, im_X2_hasFallen, se_X2_hasFallen⟩
abbrev M_X2_isInReach : kMd := (yX2_isInReach, cX2_isInReach, 4, (some .boolean))
theorem q_X2_isInReach : k_qV M_X2_isInReach 3 := ⟨⟨co_X2_isInReach, in_X2, by decide +kernel, by decide +kernel, by decide⟩, im_X2_isInReach, se_X2_isInReach⟩
abbrev M_X2_couldTake : kMd := (yX2_couldTake, cX2_couldTake, 6, (some .boolean))
theorem q_X2_couldTake : k_qV M_X2_couldTake 5 := ⟨⟨co_X2_couldTake, in_X2, by decide +kernel, by decide +kernel, by decide⟩, im_X2_couldTake, se_X2_couldTake⟩
abbrev M_X2_canTake : kMd := (yX2_canTake, cX2_canTake, 4, (some .boolean))
theorem q_X2_canTake : k_qV M_X2_canTake 3 := ⟨⟨co_X2_canTake, in_X2, by decide +kernel, by decide +kernel, by decide⟩, im_X2_canTake, se_X2_canTake⟩
abbrev M_X2_isCaught : kMd := (yX2_isCaught, cX2_isCaught, 4, (some .boolean))
theorem q_X2_isCaught : k_qV M_X2_isCaught 3 := ⟨⟨co_X2_isCaught, in_X2, by decide +kernel, by decide +kernel, by decide⟩, im_X2_isCaught, se_X2_isCaught⟩
abbrev M_X2_isWarm : kMd := (yX2_isWarm, cX2_isWarm, 3, (some .boolean))
theorem q_X2_isWarm : k_qV M_X2_isWarm 2 := ⟨⟨co_X2_isWarm, in_X2, by decide +kernel, by decide +kernel, by decide⟩, im_X2_isWarm, se_X2_isWarm⟩
abbrev M_X2_warmOnes : kMd := (yX2_warmOnes, cX2_warmOnes, 4, (some .int))
theorem q_X2_warmOnes : k_qV M_X2_warmOnes 1 := ⟨⟨co_X2_warmOnes, in_X2, by decide +kernel, by decide +kernel, by decide⟩, im_X2_warmOnes, se_X2_warmOnes⟩
abbrev M_X2_areAllWarm : kMd := (yX2_areAllWarm, cX2_areAllWarm, 2, (some .boolean))
theorem q_X2_areAllWarm : k_qV M_X2_areAllWarm 1 := ⟨⟨co_X2_areAllWarm, in_X2, by decide +kernel, by decide +kernel, by decide⟩, im_X2_areAllWarm, se_X2_areAllWarm⟩
abbrev M_X2_firstDayFor : kMd := (yX2_firstDayFor, cX2_firstDayFor, 5, (some .int))
theorem q_X2_firstDayFor : k_qV M_X2_firstDayFor 3 := ⟨⟨co_X2_firstDayFor, in_X2, by decide +kernel, by decide +kernel, by decide⟩, im_X2_firstDayFor, se_X2_firstDayFor⟩
abbrev M_X2_nobodyEverTakes : kMd := (yX2_nobodyEverTakes, cX2_nobodyEverTakes, 4, (some .boolean))
theorem q_X2_nobodyEverTakes : k_qV M_X2_nobodyEverTakes 2 := ⟨⟨co_X2_nobodyEverTakes, in_X2, by decide +kernel, by decide +kernel, by decide⟩, im_X2_nobodyEverTakes, se_X2_nobodyEverTakes⟩
abbrev M_X3_init : kMd := (yX3_init, cX3_init, 3, none)
theorem q_X3_init : k_qI M_X3_init 1 := ⟨⟨co_X3_init, in_X3, by decide +kernel, by decide +kernel, by decide⟩, im_X3_init, rfl, rfl⟩
abbrev M_X3_isFull : kMd := (yX3_isFull, cX3_isFull, 1, (some .boolean))
theorem q_X3_isFull : k_qV M_X3_isFull 0 := ⟨⟨co_X3_isFull, in_X3, by decide +kernel, by decide +kernel, by decide⟩, im_X3_isFull, se_X3_isFull⟩
abbrev M_X3_clear : kMd := (yX3_clear, cX3_clear, 1, none)
theorem q_X3_clear : k_qV M_X3_clear 0 := ⟨⟨co_X3_clear, in_X3, by decide +kernel, by decide +kernel, by decide⟩, im_X3_clear, se_X3_clear⟩
abbrev M_X3_add : kMd := (yX3_add, cX3_add, 2, none)
theorem q_X3_add : k_qV M_X3_add 1 := ⟨⟨co_X3_add, in_X3, by decide +kernel, by decide +kernel, by decide⟩, im_X3_add, se_X3_add⟩
abbrev M_X3_moveLastTo : kMd := (yX3_moveLastTo, cX3_moveLastTo, 2, none)
theorem q_X3_moveLastTo : k_qV M_X3_moveLastTo 1 := ⟨⟨co_X3_moveLastTo, in_X3, by decide +kernel, by decide +kernel, by decide⟩, im_X3_moveLastTo, se_X3_moveLastTo⟩
abbrev M_X3_dropOldest : kMd := (yX3_dropOldest, cX3_dropOldest, 3, none)
theorem q_X3_dropOldest : k_qV M_X3_dropOldest 0 := ⟨⟨co_X3_dropOldest, in_X3, by decide +kernel, by decide +kernel, by decide⟩, im_X3_dropOldest, se_X3_dropOldest⟩
abbrev M_X4_init : kMd := (yX4_init, cX4_init, 1, none)
theorem q_X4_init : k_qI M_X4_init 0 := ⟨⟨co_X4_init, in_X4, by decide +kernel, by decide +kernel, by decide⟩, im_X4_init, rfl, rfl⟩
abbrev M_X4_become : kMd := (yX4_become, cX4_become, 2, none)
theorem q_X4_become : k_qV M_X4_become 1 := ⟨⟨co_X4_become, in_X4, by decide +kernel, by decide +kernel, by decide⟩, im_X4_become, se_X4_become⟩
abbrev M_X4_clear : kMd := (yX4_clear, cX4_clear, 2, none)
theorem q_X4_clear : k_qV M_X4_clear 0 := ⟨⟨co_X4_clear, in_X4, by decide +kernel, by decide +kernel, by decide⟩, im_X4_clear, se_X4_clear⟩
abbrev M_X4_deadFrom : kMd := (yX4_deadFrom, cX4_deadFrom, 2, (some .int))
theorem q_X4_deadFrom : k_qV M_X4_deadFrom 1 := ⟨⟨co_X4_deadFrom, in_X4, by decide +kernel, by decide +kernel, by decide⟩, im_X4_deadFrom, se_X4_deadFrom⟩
abbrev M_X4_setDeadFrom : kMd := (yX4_setDeadFrom, cX4_setDeadFrom, 3, none)
theorem q_X4_setDeadFrom : k_qV M_X4_setDeadFrom 2 := ⟨⟨co_X4_setDeadFrom, in_X4, by decide +kernel, by decide +kernel, by decide⟩, im_X4_setDeadFrom, se_X4_setDeadFrom⟩
abbrev M_X4_isGone : kMd := (yX4_isGone, cX4_isGone, 2, (some .boolean))
theorem q_X4_isGone : k_qV M_X4_isGone 1 := ⟨⟨co_X4_isGone, in_X4, by decide +kernel, by decide +kernel, by decide⟩, im_X4_isGone, se_X4_isGone⟩
abbrev M_X4_stack : kMd := (yX4_stack, cX4_stack, 2, (some .int))
theorem q_X4_stack : k_qV M_X4_stack 1 := ⟨⟨co_X4_stack, in_X4, by decide +kernel, by decide +kernel, by decide⟩, im_X4_stack, se_X4_stack⟩
abbrev M_X4_reach : kMd := (yX4_reach, cX4_reach, 2, (some .int))
theorem q_X4_reach : k_qV M_X4_reach 1 := ⟨⟨co_X4_reach, in_X4, by decide +kernel, by decide +kernel, by decide⟩, im_X4_reach, se_X4_reach⟩
abbrev M_X4_setReach : kMd := (yX4_setReach, cX4_setReach, 3, none)
theorem q_X4_setReach : k_qV M_X4_setReach 2 := ⟨⟨co_X4_setReach, in_X4, by decide +kernel, by decide +kernel, by decide⟩, im_X4_setReach, se_X4_setReach⟩
abbrev M_X4_carried : kMd := (yX4_carried, cX4_carried, 2, (some .int))
theorem q_X4_carried : k_qV M_X4_carried 1 := ⟨⟨co_X4_carried, in_X4, by decide +kernel, by decide +kernel, by decide⟩, im_X4_carried, se_X4_carried⟩
abbrev M_X4_pick : kMd := (yX4_pick, cX4_pick, 4, none)
theorem q_X4_pick : k_qV M_X4_pick 3 := ⟨⟨co_X4_pick, in_X4, by decide +kernel, by decide +kernel, by decide⟩, im_X4_pick, se_X4_pick⟩
abbrev M_X4_loseStack : kMd := (yX4_loseStack, cX4_loseStack, 2, none)
theorem q_X4_loseStack : k_qV M_X4_loseStack 1 := ⟨⟨co_X4_loseStack, in_X4, by decide +kernel, by decide +kernel, by decide⟩, im_X4_loseStack, se_X4_loseStack⟩
abbrev M_X4_goBy : kMd := (yX4_goBy, cX4_goBy, 3, none)
theorem q_X4_goBy : k_qV M_X4_goBy 1 := ⟨⟨co_X4_goBy, in_X4, by decide +kernel, by decide +kernel, by decide⟩, im_X4_goBy, se_X4_goBy⟩
abbrev M_X5_init : kMd := (yX5_init, cX5_init, 1, none)
theorem q_X5_init : k_qI M_X5_init 0 := ⟨⟨co_X5_init, in_X5, by decide +kernel, by decide +kernel, by decide⟩, im_X5_init, rfl, rfl⟩
abbrev M_X5_isFull : kMd := (yX5_isFull, cX5_isFull, 1, (some .boolean))
theorem q_X5_isFull : k_qV M_X5_isFull 0 := ⟨⟨co_X5_isFull, in_X5, by decide +kernel, by decide +kernel, by decide⟩, im_X5_isFull, se_X5_isFull⟩
abbrev M_X5_add : kMd := (yX5_add, cX5_add, 2, none)
theorem q_X5_add : k_qV M_X5_add 1 := ⟨⟨co_X5_add, in_X5, by decide +kernel, by decide +kernel, by decide⟩, im_X5_add, se_X5_add⟩
abbrev M_X5_become : kMd := (yX5_become, cX5_become, 3, none)
theorem q_X5_become : k_qV M_X5_become 1 := ⟨⟨co_X5_become, in_X5, by decide +kernel, by decide +kernel, by decide⟩, im_X5_become, se_X5_become⟩
abbrev M_X5_letter : kMd := (yX5_letter, cX5_letter, 2, (some .char))
theorem q_X5_letter : k_qV M_X5_letter 1 := ⟨⟨co_X5_letter, in_X5, by decide +kernel, by decide +kernel, by decide⟩, im_X5_letter, se_X5_letter⟩
abbrev M_X5_number : kMd := (yX5_number, cX5_number, 2, (some .int))
theorem q_X5_number : k_qV M_X5_number 1 := ⟨⟨co_X5_number, in_X5, by decide +kernel, by decide +kernel, by decide⟩, im_X5_number, se_X5_number⟩
abbrev M_X5_firstFault : kMd := (yX5_firstFault, cX5_firstFault, 6, (some .int))
theorem q_X5_firstFault : k_qV M_X5_firstFault 0 := ⟨⟨co_X5_firstFault, in_X5, by decide +kernel, by decide +kernel, by decide⟩, im_X5_firstFault, se_X5_firstFault⟩
abbrev M_X5_canBeLaid : kMd := (yX5_canBeLaid, cX5_canBeLaid, 1, (some .boolean))
theorem q_X5_canBeLaid : k_qV M_X5_canBeLaid 0 := ⟨⟨co_X5_canBeLaid, in_X5, by decide +kernel, by decide +kernel, by decide⟩, im_X5_canBeLaid, se_X5_canBeLaid⟩
abbrev M_X5_has : kMd := (yX5_has, cX5_has, 3, (some .boolean))
theorem q_X5_has : k_qV M_X5_has 1 := ⟨⟨co_X5_has, in_X5, by decide +kernel, by decide +kernel, by decide⟩, im_X5_has, se_X5_has⟩
abbrev M_X5_readItem : kMd := (yX5_readItem, cX5_readItem, 7, (some .int))
theorem q_X5_readItem : k_qV M_X5_readItem 1 := ⟨⟨co_X5_readItem, in_X5, by decide +kernel, by decide +kernel, by decide⟩, im_X5_readItem, se_X5_readItem⟩
abbrev M_X5_readNumber : kMd := (yX5_readNumber, cX5_readNumber, 6, (some .boolean))
theorem q_X5_readNumber : k_qV M_X5_readNumber 4 := ⟨⟨co_X5_readNumber, in_X5, by decide +kernel, by decide +kernel, by decide⟩, im_X5_readNumber, se_X5_readNumber⟩
abbrev M_X5_figuresAt : kMd := (yX5_figuresAt, cX5_figuresAt, 2, (some .int))
theorem q_X5_figuresAt : k_qV M_X5_figuresAt 1 := ⟨⟨co_X5_figuresAt, in_X5, by decide +kernel, by decide +kernel, by decide⟩, im_X5_figuresAt, se_X5_figuresAt⟩
abbrev M_X5_isFigure : kMd := (yX5_isFigure, cX5_isFigure, 1, (some .boolean))
theorem q_X5_isFigure : k_qS M_X5_isFigure 1 := ⟨⟨co_X5_isFigure, in_X5, by decide +kernel, by decide +kernel, by decide⟩, st_X5_isFigure⟩
abbrev M_X5_howManyNumbers : kMd := (yX5_howManyNumbers, cX5_howManyNumbers, 1, (some .int))
theorem q_X5_howManyNumbers : k_qS M_X5_howManyNumbers 1 := ⟨⟨co_X5_howManyNumbers, in_X5, by decide +kernel, by decide +kernel, by decide⟩, st_X5_howManyNumbers⟩
abbrev M_X5_firstLimit : kMd := (yX5_firstLimit, cX5_firstLimit, 1, (some .int))
theorem q_X5_firstLimit : k_qS M_X5_firstLimit 1 := ⟨⟨co_X5_firstLimit, in_X5, by decide +kernel, by decide +kernel, by decide⟩, st_X5_firstLimit⟩
abbrev M_X6_init : kMd := (yX6_init, cX6_init, 1, none)
theorem q_X6_init : k_qI M_X6_init 0 := ⟨⟨co_X6_init, in_X6, by decide +kernel, by decide +kernel, by decide⟩, im_X6_init, rfl, rfl⟩
abbrev M_X6_write : kMd := (yX6_write, cX6_write, 2, (some .int))
theorem q_X6_write : k_qV M_X6_write 1 := ⟨⟨co_X6_write, in_X6, by decide +kernel, by decide +kernel, by decide⟩, im_X6_write, se_X6_write⟩
abbrev M_X6_wipe : kMd := (yX6_wipe, cX6_wipe, 2, (some .int))
theorem q_X6_wipe : k_qV M_X6_wipe 0 := ⟨⟨co_X6_wipe, in_X6, by decide +kernel, by decide +kernel, by decide⟩, im_X6_wipe, se_X6_wipe⟩
abbrev M_X6_fault : kMd := (yX6_fault, cX6_fault, 1, (some .int))
theorem q_X6_fault : k_qV M_X6_fault 0 := ⟨⟨co_X6_fault, in_X6, by decide +kernel, by decide +kernel, by decide⟩, im_X6_fault, se_X6_fault⟩
abbrev M_X6_lay : kMd := (yX6_lay, cX6_lay, 1, (some .int))
theorem q_X6_lay : k_qV M_X6_lay 0 := ⟨⟨co_X6_lay, in_X6, by decide +kernel, by decide +kernel, by decide⟩, im_X6_lay, se_X6_lay⟩
abbrev M_X6_bough : kMd := (yX6_bough, cX6_bough, 3, (some .int))
theorem q_X6_bough : k_qV M_X6_bough 2 := ⟨⟨co_X6_bough, in_X6, by decide +kernel, by decide +kernel, by decide⟩, im_X6_bough, se_X6_bough⟩
abbrev M_X6_tenant : kMd := (yX6_tenant, cX6_tenant, 3, (some .int))
theorem q_X6_tenant : k_qV M_X6_tenant 2 := ⟨⟨co_X6_tenant, in_X6, by decide +kernel, by decide +kernel, by decide⟩, im_X6_tenant, se_X6_tenant⟩
abbrev M_X6_can : kMd := (yX6_can, cX6_can, 3, (some .int))
theorem q_X6_can : k_qV M_X6_can 2 := ⟨⟨co_X6_can, in_X6, by decide +kernel, by decide +kernel, by decide⟩, im_X6_can, se_X6_can⟩
abbrev M_X6_take : kMd := (yX6_take, cX6_take, 4, (some .int))
theorem q_X6_take : k_qV M_X6_take 2 := ⟨⟨co_X6_take, in_X6, by decide +kernel, by decide +kernel, by decide⟩, im_X6_take, se_X6_take⟩
abbrev M_X6_pass : kMd := (yX6_pass, cX6_pass, 2, (some .int))
theorem q_X6_pass : k_qV M_X6_pass 1 := ⟨⟨co_X6_pass, in_X6, by decide +kernel, by decide +kernel, by decide⟩, im_X6_pass, se_X6_pass⟩
abbrev M_X6_hook : kMd := (yX6_hook, cX6_hook, 4, (some .int))
theorem q_X6_hook : k_qV M_X6_hook 2 := ⟨⟨co_X6_hook, in_X6, by decide +kernel, by decide +kernel, by decide⟩, im_X6_hook, se_X6_hook⟩
abbrev M_X6_ring : kMd := (yX6_ring, cX6_ring, 3, (some .int))
theorem q_X6_ring : k_qV M_X6_ring 1 := ⟨⟨co_X6_ring, in_X6, by decide +kernel, by decide +kernel, by decide⟩, im_X6_ring, se_X6_ring⟩
abbrev M_X6_undo : kMd := (yX6_undo, cX6_undo, 1, (some .int))
theorem q_X6_undo : k_qV M_X6_undo 0 := ⟨⟨co_X6_undo, in_X6, by decide +kernel, by decide +kernel, by decide⟩, im_X6_undo, se_X6_undo⟩
abbrev M_X6_warmBy : kMd := (yX6_warmBy, cX6_warmBy, 2, (some .int))
theorem q_X6_warmBy : k_qV M_X6_warmBy 1 := ⟨⟨co_X6_warmBy, in_X6, by decide +kernel, by decide +kernel, by decide⟩, im_X6_warmBy, se_X6_warmBy⟩
abbrev M_X6_allWarm : kMd := (yX6_allWarm, cX6_allWarm, 1, (some .int))
theorem q_X6_allWarm : k_qV M_X6_allWarm 0 := ⟨⟨co_X6_allWarm, in_X6, by decide +kernel, by decide +kernel, by decide⟩, im_X6_allWarm, se_X6_allWarm⟩
abbrev M_X6_share : kMd := (yX6_share, cX6_share, 2, (some .int))
theorem q_X6_share : k_qV M_X6_share 1 := ⟨⟨co_X6_share, in_X6, by decide +kernel, by decide +kernel, by decide⟩, im_X6_share, se_X6_share⟩
abbrev M_X6_leastHook : kMd := (yX6_leastHook, cX6_leastHook, 3, (some .int))
theorem q_X6_leastHook : k_qV M_X6_leastHook 1 := ⟨⟨co_X6_leastHook, in_X6, by decide +kernel, by decide +kernel, by decide⟩, im_X6_leastHook, se_X6_leastHook⟩
abbrev M_X6_pole : kMd := (yX6_pole, cX6_pole, 2, (some .int))
theorem q_X6_pole : k_qV M_X6_pole 0 := ⟨⟨co_X6_pole, in_X6, by decide +kernel, by decide +kernel, by decide⟩, im_X6_pole, se_X6_pole⟩
abbrev M_X6_firstDay : kMd := (yX6_firstDay, cX6_firstDay, 3, (some .int))
theorem q_X6_firstDay : k_qV M_X6_firstDay 2 := ⟨⟨co_X6_firstDay, in_X6, by decide +kernel, by decide +kernel, by decide⟩, im_X6_firstDay, se_X6_firstDay⟩
abbrev M_X6_sticks : kMd := (yX6_sticks, cX6_sticks, 6, (some .int))
theorem q_X6_sticks : k_qV M_X6_sticks 2 := ⟨⟨co_X6_sticks, in_X6, by decide +kernel, by decide +kernel, by decide⟩, im_X6_sticks, se_X6_sticks⟩
abbrev M_X6_whose : kMd := (yX6_whose, cX6_whose, 5, (some .int))
theorem q_X6_whose : k_qV M_X6_whose 2 := ⟨⟨co_X6_whose, in_X6, by decide +kernel, by decide +kernel, by decide⟩, im_X6_whose, se_X6_whose⟩
abbrev M_X6_sure : kMd := (yX6_sure, cX6_sure, 9, (some .int))
theorem q_X6_sure : k_qV M_X6_sure 4 := ⟨⟨co_X6_sure, in_X6, by decide +kernel, by decide +kernel, by decide⟩, im_X6_sure, se_X6_sure⟩
abbrev M_X6_waste : kMd := (yX6_waste, cX6_waste, 3, (some .int))
theorem q_X6_waste : k_qV M_X6_waste 0 := ⟨⟨co_X6_waste, in_X6, by decide +kernel, by decide +kernel, by decide⟩, im_X6_waste, se_X6_waste⟩
abbrev M_X6_needs : kMd := (yX6_needs, cX6_needs, 3, (some .int))
theorem q_X6_needs : k_qV M_X6_needs 0 := ⟨⟨co_X6_needs, in_X6, by decide +kernel, by decide +kernel, by decide⟩, im_X6_needs, se_X6_needs⟩
abbrev M_X6_storm : kMd := (yX6_storm, cX6_storm, 4, (some .int))
theorem q_X6_storm : k_qV M_X6_storm 3 := ⟨⟨co_X6_storm, in_X6, by decide +kernel, by decide +kernel, by decide⟩, im_X6_storm, se_X6_storm⟩
abbrev M_X6_keep : kMd := (yX6_keep, cX6_keep, 1, (some .int))
theorem q_X6_keep : k_qV M_X6_keep 0 := ⟨⟨co_X6_keep, in_X6, by decide +kernel, by decide +kernel, by decide⟩, im_X6_keep, se_X6_keep⟩
abbrev M_X6_back : kMd := (yX6_back, cX6_back, 1, (some .int))
theorem q_X6_back : k_qV M_X6_back 0 := ⟨⟨co_X6_back, in_X6, by decide +kernel, by decide +kernel, by decide⟩, im_X6_back, se_X6_back⟩
abbrev M_X6_count : kMd := (yX6_count, cX6_count, 2, (some .int))
theorem q_X6_count : k_qV M_X6_count 1 := ⟨⟨co_X6_count, in_X6, by decide +kernel, by decide +kernel, by decide⟩, im_X6_count, se_X6_count⟩
abbrev M_X6_isWithin : kMd := (yX6_isWithin, cX6_isWithin, 3, (some .boolean))
theorem q_X6_isWithin : k_qS M_X6_isWithin 3 := ⟨⟨co_X6_isWithin, in_X6, by decide +kernel, by decide +kernel, by decide⟩, st_X6_isWithin⟩
abbrev M_X6_bit : kMd := (yX6_bit, cX6_bit, 1, (some .int))
theorem q_X6_bit : k_qS M_X6_bit 1 := ⟨⟨co_X6_bit, in_X6, by decide +kernel, by decide +kernel, by decide⟩, st_X6_bit⟩
abbrev M_X6_commonWithTen : kMd := (yX6_commonWithTen, cX6_commonWithTen, 2, (some .int))
theorem q_X6_commonWithTen : k_qS M_X6_commonWithTen 1 := ⟨⟨co_X6_commonWithTen, in_X6, by decide +kernel, by decide +kernel, by decide⟩, st_X6_commonWithTen⟩
abbrev M_X7_init : kMd := (yX7_init, cX7_init, 1, none)
theorem q_X7_init : k_qI M_X7_init 0 := ⟨⟨co_X7_init, in_X7, by decide +kernel, by decide +kernel, by decide⟩, im_X7_init, rfl, rfl⟩
abbrev M_X7_in : kMd := (yX7_in, cX7_in, 3, (some .boolean))
theorem q_X7_in : k_qS M_X7_in 3 := ⟨⟨co_X7_in, in_X7, by decide +kernel, by decide +kernel, by decide⟩, st_X7_in⟩
abbrev M_X7_isBough : kMd := (yX7_isBough, cX7_isBough, 2, (some .boolean))
theorem q_X7_isBough : k_qV M_X7_isBough 1 := ⟨⟨co_X7_isBough, in_X7, by decide +kernel, by decide +kernel, by decide⟩, im_X7_isBough, se_X7_isBough⟩
abbrev M_X7_isTenant : kMd := (yX7_isTenant, cX7_isTenant, 2, (some .boolean))
theorem q_X7_isTenant : k_qV M_X7_isTenant 1 := ⟨⟨co_X7_isTenant, in_X7, by decide +kernel, by decide +kernel, by decide⟩, im_X7_isTenant, se_X7_isTenant⟩
abbrev M_X7_write : kMd := (yX7_write, cX7_write, 2, (some .int))
theorem q_X7_write : k_qV M_X7_write 1 := ⟨⟨co_X7_write, in_X7, by decide +kernel, by decide +kernel, by decide⟩, im_X7_write, se_X7_write⟩
abbrev M_X7_wipe : kMd := (yX7_wipe, cX7_wipe, 2, (some .int))
theorem q_X7_wipe : k_qV M_X7_wipe 0 := ⟨⟨co_X7_wipe, in_X7, by decide +kernel, by decide +kernel, by decide⟩, im_X7_wipe, se_X7_wipe⟩
abbrev M_X7_letterAt : kMd := (yX7_letterAt, cX7_letterAt, 2, (some .int))
theorem q_X7_letterAt : k_qV M_X7_letterAt 1 := ⟨⟨co_X7_letterAt, in_X7, by decide +kernel, by decide +kernel, by decide⟩, im_X7_letterAt, se_X7_letterAt⟩
abbrev M_X7_isFigure : kMd := (yX7_isFigure, cX7_isFigure, 1, (some .boolean))
theorem q_X7_isFigure : k_qS M_X7_isFigure 1 := ⟨⟨co_X7_isFigure, in_X7, by decide +kernel, by decide +kernel, by decide⟩, st_X7_isFigure⟩
abbrev M_X7_number : kMd := (yX7_number, cX7_number, 6, (some .int))
theorem q_X7_number : k_qV M_X7_number 3 := ⟨⟨co_X7_number, in_X7, by decide +kernel, by decide +kernel, by decide⟩, im_X7_number, se_X7_number⟩
abbrev M_X7_begins : kMd := (yX7_begins, cX7_begins, 2, none)
theorem q_X7_begins : k_qV M_X7_begins 0 := ⟨⟨co_X7_begins, in_X7, by decide +kernel, by decide +kernel, by decide⟩, im_X7_begins, se_X7_begins⟩
abbrev M_X7_boughOf : kMd := (yX7_boughOf, cX7_boughOf, 6, none)
theorem q_X7_boughOf : k_qV M_X7_boughOf 4 := ⟨⟨co_X7_boughOf, in_X7, by decide +kernel, by decide +kernel, by decide⟩, im_X7_boughOf, se_X7_boughOf⟩
abbrev M_X7_tenantOf : kMd := (yX7_tenantOf, cX7_tenantOf, 5, none)
theorem q_X7_tenantOf : k_qV M_X7_tenantOf 3 := ⟨⟨co_X7_tenantOf, in_X7, by decide +kernel, by decide +kernel, by decide⟩, im_X7_tenantOf, se_X7_tenantOf⟩
abbrev M_X7_readsItem : kMd := (yX7_readsItem, cX7_readsItem, 6, (some .boolean))
theorem q_X7_readsItem : k_qV M_X7_readsItem 1 := ⟨⟨co_X7_readsItem, in_X7, by decide +kernel, by decide +kernel, by decide⟩, im_X7_readsItem, se_X7_readsItem⟩
abbrev M_X7_readsAll : kMd := (yX7_readsAll, cX7_readsAll, 2, (some .int))
theorem q_X7_readsAll : k_qV M_X7_readsAll 0 := ⟨⟨co_X7_readsAll, in_X7, by decide +kernel, by decide +kernel, by decide⟩, im_X7_readsAll, se_X7_readsAll⟩
abbrev M_X7_fault : kMd := (yX7_fault, cX7_fault, 1, (some .int))
theorem q_X7_fault : k_qV M_X7_fault 0 := ⟨⟨co_X7_fault, in_X7, by decide +kernel, by decide +kernel, by decide⟩, im_X7_fault, se_X7_fault⟩
abbrev M_X7_lays : kMd := (yX7_lays, cX7_lays, 2, none)
theorem q_X7_lays : k_qV M_X7_lays 0 := ⟨⟨co_X7_lays, in_X7, by decide +kernel, by decide +kernel, by decide⟩, im_X7_lays, se_X7_lays⟩
abbrev M_X7_lay : kMd := (yX7_lay, cX7_lay, 1, (some .int))
theorem q_X7_lay : k_qV M_X7_lay 0 := ⟨⟨co_X7_lay, in_X7, by decide +kernel, by decide +kernel, by decide⟩, im_X7_lay, se_X7_lay⟩
abbrev M_X7_isDead : kMd := (yX7_isDead, cX7_isDead, 3, (some .boolean))
theorem q_X7_isDead : k_qV M_X7_isDead 2 := ⟨⟨co_X7_isDead, in_X7, by decide +kernel, by decide +kernel, by decide⟩, im_X7_isDead, se_X7_isDead⟩
abbrev M_X7_isFallen : kMd := (yX7_isFallen, cX7_isFallen, 3, (some .boolean))
theorem q_X7_isFallen : k_qV M_X7_isFallen 2 := ⟨⟨co_X7_isFallen, in_X7, by decide +kernel, by decide +kernel, by decide⟩, im_X7_isFallen, se_X7_isFallen⟩
abbrev M_X7_bough : kMd := (yX7_bough, cX7_bough, 3, (some .int))
theorem q_X7_bough : k_qV M_X7_bough 2 := ⟨⟨co_X7_bough, in_X7, by decide +kernel, by decide +kernel, by decide⟩, im_X7_bough, se_X7_bough⟩
abbrev M_X7_isWarm : kMd := (yX7_isWarm, cX7_isWarm, 2, (some .boolean))
theorem q_X7_isWarm : k_qV M_X7_isWarm 1 := ⟨⟨co_X7_isWarm, in_X7, by decide +kernel, by decide +kernel, by decide⟩, im_X7_isWarm, se_X7_isWarm⟩
abbrev M_X7_tenant : kMd := (yX7_tenant, cX7_tenant, 3, (some .int))
theorem q_X7_tenant : k_qV M_X7_tenant 2 := ⟨⟨co_X7_tenant, in_X7, by decide +kernel, by decide +kernel, by decide⟩, im_X7_tenant, se_X7_tenant⟩
abbrev M_X7_could : kMd := (yX7_could, cX7_could, 9, (some .boolean))
theorem q_X7_could : k_qV M_X7_could 4 := ⟨⟨co_X7_could, in_X7, by decide +kernel, by decide +kernel, by decide⟩, im_X7_could, se_X7_could⟩
abbrev M_X7_canNow : kMd := (yX7_canNow, cX7_canNow, 3, (some .boolean))
theorem q_X7_canNow : k_qV M_X7_canNow 2 := ⟨⟨co_X7_canNow, in_X7, by decide +kernel, by decide +kernel, by decide⟩, im_X7_canNow, se_X7_canNow⟩
abbrev M_X7_keeps : kMd := (yX7_keeps, cX7_keeps, 2, none)
theorem q_X7_keeps : k_qV M_X7_keeps 0 := ⟨⟨co_X7_keeps, in_X7, by decide +kernel, by decide +kernel, by decide⟩, im_X7_keeps, se_X7_keeps⟩
abbrev M_X7_can : kMd := (yX7_can, cX7_can, 3, (some .int))
theorem q_X7_can : k_qV M_X7_can 2 := ⟨⟨co_X7_can, in_X7, by decide +kernel, by decide +kernel, by decide⟩, im_X7_can, se_X7_can⟩
abbrev M_X7_takes : kMd := (yX7_takes, cX7_takes, 3, none)
theorem q_X7_takes : k_qV M_X7_takes 2 := ⟨⟨co_X7_takes, in_X7, by decide +kernel, by decide +kernel, by decide⟩, im_X7_takes, se_X7_takes⟩
abbrev M_X7_take : kMd := (yX7_take, cX7_take, 4, (some .int))
theorem q_X7_take : k_qV M_X7_take 2 := ⟨⟨co_X7_take, in_X7, by decide +kernel, by decide +kernel, by decide⟩, im_X7_take, se_X7_take⟩
abbrev M_X7_passes : kMd := (yX7_passes, cX7_passes, 2, none)
theorem q_X7_passes : k_qV M_X7_passes 0 := ⟨⟨co_X7_passes, in_X7, by decide +kernel, by decide +kernel, by decide⟩, im_X7_passes, se_X7_passes⟩
abbrev M_X7_pass : kMd := (yX7_pass, cX7_pass, 3, (some .int))
theorem q_X7_pass : k_qV M_X7_pass 1 := ⟨⟨co_X7_pass, in_X7, by decide +kernel, by decide +kernel, by decide⟩, im_X7_pass, se_X7_pass⟩
abbrev M_X7_hook : kMd := (yX7_hook, cX7_hook, 4, (some .int))
theorem q_X7_hook : k_qV M_X7_hook 2 := ⟨⟨co_X7_hook, in_X7, by decide +kernel, by decide +kernel, by decide⟩, im_X7_hook, se_X7_hook⟩
abbrev M_X7_ring : kMd := (yX7_ring, cX7_ring, 3, (some .int))
theorem q_X7_ring : k_qV M_X7_ring 1 := ⟨⟨co_X7_ring, in_X7, by decide +kernel, by decide +kernel, by decide⟩, im_X7_ring, se_X7_ring⟩
abbrev M_X7_undo : kMd := (yX7_undo, cX7_undo, 2, (some .int))
theorem q_X7_undo : k_qV M_X7_undo 0 := ⟨⟨co_X7_undo, in_X7, by decide +kernel, by decide +kernel, by decide⟩, im_X7_undo, se_X7_undo⟩
abbrev M_X7_holds : kMd := (yX7_holds, cX7_holds, 2, none)
theorem q_X7_holds : k_qV M_X7_holds 0 := ⟨⟨co_X7_holds, in_X7, by decide +kernel, by decide +kernel, by decide⟩, im_X7_holds, se_X7_holds⟩
abbrev M_X7_lets : kMd := (yX7_lets, cX7_lets, 2, none)
theorem q_X7_lets : k_qV M_X7_lets 0 := ⟨⟨co_X7_lets, in_X7, by decide +kernel, by decide +kernel, by decide⟩, im_X7_lets, se_X7_lets⟩
abbrev M_X7_eachTakes : kMd := (yX7_eachTakes, cX7_eachTakes, 3, none)
theorem q_X7_eachTakes : k_qV M_X7_eachTakes 0 := ⟨⟨co_X7_eachTakes, in_X7, by decide +kernel, by decide +kernel, by decide⟩, im_X7_eachTakes, se_X7_eachTakes⟩
abbrev M_X7_warm : kMd := (yX7_warm, cX7_warm, 3, (some .int))
theorem q_X7_warm : k_qV M_X7_warm 0 := ⟨⟨co_X7_warm, in_X7, by decide +kernel, by decide +kernel, by decide⟩, im_X7_warm, se_X7_warm⟩
abbrev M_X7_warmAt : kMd := (yX7_warmAt, cX7_warmAt, 2, (some .int))
theorem q_X7_warmAt : k_qV M_X7_warmAt 1 := ⟨⟨co_X7_warmAt, in_X7, by decide +kernel, by decide +kernel, by decide⟩, im_X7_warmAt, se_X7_warmAt⟩
abbrev M_X7_warmBy : kMd := (yX7_warmBy, cX7_warmBy, 3, (some .int))
theorem q_X7_warmBy : k_qV M_X7_warmBy 1 := ⟨⟨co_X7_warmBy, in_X7, by decide +kernel, by decide +kernel, by decide⟩, im_X7_warmBy, se_X7_warmBy⟩
abbrev M_X7_allWarm : kMd := (yX7_allWarm, cX7_allWarm, 2, (some .int))
theorem q_X7_allWarm : k_qV M_X7_allWarm 0 := ⟨⟨co_X7_allWarm, in_X7, by decide +kernel, by decide +kernel, by decide⟩, im_X7_allWarm, se_X7_allWarm⟩
abbrev M_X7_share : kMd := (yX7_share, cX7_share, 13, (some .int))
theorem q_X7_share : k_qV M_X7_share 1 := ⟨⟨co_X7_share, in_X7, by decide +kernel, by decide +kernel, by decide⟩, im_X7_share, se_X7_share⟩
abbrev M_X7_leastHook : kMd := (yX7_leastHook, cX7_leastHook, 4, (some .int))
theorem q_X7_leastHook : k_qV M_X7_leastHook 1 := ⟨⟨co_X7_leastHook, in_X7, by decide +kernel, by decide +kernel, by decide⟩, im_X7_leastHook, se_X7_leastHook⟩
abbrev M_X7_pole : kMd := (yX7_pole, cX7_pole, 4, (some .int))
theorem q_X7_pole : k_qV M_X7_pole 0 := ⟨⟨co_X7_pole, in_X7, by decide +kernel, by decide +kernel, by decide⟩, im_X7_pole, se_X7_pole⟩
abbrev M_X7_firstOf : kMd := (yX7_firstOf, cX7_firstOf, 5, (some .int))
theorem q_X7_firstOf : k_qV M_X7_firstOf 2 := ⟨⟨co_X7_firstOf, in_X7, by decide +kernel, by decide +kernel, by decide⟩, im_X7_firstOf, se_X7_firstOf⟩
abbrev M_X7_firstDay : kMd := (yX7_firstDay, cX7_firstDay, 3, (some .int))
theorem q_X7_firstDay : k_qV M_X7_firstDay 2 := ⟨⟨co_X7_firstDay, in_X7, by decide +kernel, by decide +kernel, by decide⟩, im_X7_firstDay, se_X7_firstDay⟩
abbrev M_X7_sticks : kMd := (yX7_sticks, cX7_sticks, 10, (some .int))
theorem q_X7_sticks : k_qV M_X7_sticks 2 := ⟨⟨co_X7_sticks, in_X7, by decide +kernel, by decide +kernel, by decide⟩, im_X7_sticks, se_X7_sticks⟩
abbrev M_X7_whose : kMd := (yX7_whose, cX7_whose, 5, (some .int))
theorem q_X7_whose : k_qV M_X7_whose 2 := ⟨⟨co_X7_whose, in_X7, by decide +kernel, by decide +kernel, by decide⟩, im_X7_whose, se_X7_whose⟩
abbrev M_X7_sure : kMd := (yX7_sure, cX7_sure, 10, (some .int))
theorem q_X7_sure : k_qV M_X7_sure 4 := ⟨⟨co_X7_sure, in_X7, by decide +kernel, by decide +kernel, by decide⟩, im_X7_sure, se_X7_sure⟩
abbrev M_X7_waste : kMd := (yX7_waste, cX7_waste, 5, (some .int))
theorem q_X7_waste : k_qV M_X7_waste 0 := ⟨⟨co_X7_waste, in_X7, by decide +kernel, by decide +kernel, by decide⟩, im_X7_waste, se_X7_waste⟩
abbrev M_X7_needs : kMd := (yX7_needs, cX7_needs, 3, (some .int))
theorem q_X7_needs : k_qV M_X7_needs 0 := ⟨⟨co_X7_needs, in_X7, by decide +kernel, by decide +kernel, by decide⟩, im_X7_needs, se_X7_needs⟩
abbrev M_X7_weighs : kMd := (yX7_weighs, cX7_weighs, 3, (some .int))
theorem q_X7_weighs : k_qV M_X7_weighs 0 := ⟨⟨co_X7_weighs, in_X7, by decide +kernel, by decide +kernel, by decide⟩, im_X7_weighs, se_X7_weighs⟩
abbrev M_X7_storm : kMd := (yX7_storm, cX7_storm, 11, (some .int))
theorem q_X7_storm : k_qV M_X7_storm 3 := ⟨⟨co_X7_storm, in_X7, by decide +kernel, by decide +kernel, by decide⟩, im_X7_storm, se_X7_storm⟩
abbrev M_X7_keep : kMd := (yX7_keep, cX7_keep, 2, (some .int))
theorem q_X7_keep : k_qV M_X7_keep 0 := ⟨⟨co_X7_keep, in_X7, by decide +kernel, by decide +kernel, by decide⟩, im_X7_keep, se_X7_keep⟩
abbrev M_X7_back : kMd := (yX7_back, cX7_back, 2, (some .int))
theorem q_X7_back : k_qV M_X7_back 0 := ⟨⟨co_X7_back, in_X7, by decide +kernel, by decide +kernel, by decide⟩, im_X7_back, se_X7_back⟩
abbrev M_X7_count : kMd := (yX7_count, cX7_count, 4, (some .int))
theorem q_X7_count : k_qV M_X7_count 1 := ⟨⟨co_X7_count, in_X7, by decide +kernel, by decide +kernel, by decide⟩, im_X7_count, se_X7_count⟩
abbrev M_J6_bitCount_0f7a4 : kMd := (yJ6_bitCount_0f7a4, cJ6_bitCount_0f7a4, 1, (some .int))
theorem q_J6_bitCount_0f7a4 : k_qS M_J6_bitCount_0f7a4 1 := ⟨⟨co_J6_bitCount_0f7a4, in_J6, by decide +kernel, by decide +kernel, by decide⟩, st_J6_bitCount_0f7a4⟩
abbrev M_J0_length_8abf5 : kMd := (yJ0_length_8abf5, cJ0_length_8abf5, 1, (some .int))
theorem q_J0_length_8abf5 : k_qV M_J0_length_8abf5 0 := ⟨⟨co_J0_length_8abf5, in_J0, by decide +kernel, by decide +kernel, by decide⟩, im_J0_length_8abf5, se_J0_length_8abf5⟩
abbrev M_J0_charAt_5068e : kMd := (yJ0_charAt_5068e, cJ0_charAt_5068e, 2, (some .char))
theorem q_J0_charAt_5068e : k_qV M_J0_charAt_5068e 1 := ⟨⟨co_J0_charAt_5068e, in_J0, by decide +kernel, by decide +kernel, by decide⟩, im_J0_charAt_5068e, se_J0_charAt_5068e⟩
abbrev M_J0_coder_7d493 : kMd := (yJ0_coder_7d493, cJ0_coder_7d493, 1, (some .byte))
theorem q_J0_coder_7d493 : k_qV M_J0_coder_7d493 0 := ⟨⟨co_J0_coder_7d493, in_J0, by decide +kernel, by decide +kernel, by decide⟩, im_J0_coder_7d493, se_J0_coder_7d493⟩
abbrev M_J0_isLatin1_aae02 : kMd := (yJ0_isLatin1_aae02, cJ0_isLatin1_aae02, 1, (some .boolean))
theorem q_J0_isLatin1_aae02 : k_qV M_J0_isLatin1_aae02 0 := ⟨⟨co_J0_isLatin1_aae02, in_J0, by decide +kernel, by decide +kernel, by decide⟩, im_J0_isLatin1_aae02, se_J0_isLatin1_aae02⟩
abbrev M_J0_checkIndex_df160 : kMd := (yJ0_checkIndex_df160, cJ0_checkIndex_df160, 2, none)
theorem q_J0_checkIndex_df160 : k_qS M_J0_checkIndex_df160 2 := ⟨⟨co_J0_checkIndex_df160, in_J0, by decide +kernel, by decide +kernel, by decide⟩, st_J0_checkIndex_df160⟩
abbrev M_J1_charAt_3b067 : kMd := (yJ1_charAt_3b067, cJ1_charAt_3b067, 2, (some .char))
theorem q_J1_charAt_3b067 : k_qS M_J1_charAt_3b067 2 := ⟨⟨co_J1_charAt_3b067, in_J1, by decide +kernel, by decide +kernel, by decide⟩, st_J1_charAt_3b067⟩
abbrev M_J2_getChar_3b067 : kMd := (yJ2_getChar_3b067, cJ2_getChar_3b067, 2, (some .char))
theorem q_J2_getChar_3b067 : k_qS M_J2_getChar_3b067 2 := ⟨⟨co_J2_getChar_3b067, in_J2, by decide +kernel, by decide +kernel, by decide⟩, st_J2_getChar_3b067⟩
abbrev M_J2_length_9d52b : kMd := (yJ2_length_9d52b, cJ2_length_9d52b, 1, (some .int))
theorem q_J2_length_9d52b : k_qS M_J2_length_9d52b 1 := ⟨⟨co_J2_length_9d52b, in_J2, by decide +kernel, by decide +kernel, by decide⟩, st_J2_length_9d52b⟩
abbrev M_J2_charAt_3b067 : kMd := (yJ2_charAt_3b067, cJ2_charAt_3b067, 2, (some .char))
theorem q_J2_charAt_3b067 : k_qS M_J2_charAt_3b067 2 := ⟨⟨co_J2_charAt_3b067, in_J2, by decide +kernel, by decide +kernel, by decide⟩, st_J2_charAt_3b067⟩
abbrev M_J2_checkIndex_2214a : kMd := (yJ2_checkIndex_2214a, cJ2_checkIndex_2214a, 2, none)
theorem q_J2_checkIndex_2214a : k_qS M_J2_checkIndex_2214a 2 := ⟨⟨co_J2_checkIndex_2214a, in_J2, by decide +kernel, by decide +kernel, by decide⟩, st_J2_checkIndex_2214a⟩
abbrev M_J3_checkIndex_8e157 : kMd := (yJ3_checkIndex_8e157, cJ3_checkIndex_8e157, 3, (some .int))
theorem q_J3_checkIndex_8e157 : k_qS M_J3_checkIndex_8e157 3 := ⟨⟨co_J3_checkIndex_8e157, in_J3, by decide +kernel, by decide +kernel, by decide⟩, st_J3_checkIndex_8e157⟩
abbrev M_L_law : kMd := (x, code, 4, some .boolean)
theorem kp_X5_11 : k_fld RX5 11 5 0 3 true := ⟨RX5, TX5, tyX5, rfl, inK5, by decide, fl_X5_11, tyX5_ok, nmX5, (fun h => by cases h), (fun _ v hv => by rcases hv with rfl | ⟨a, rfl⟩ <;> exact ⟨rfl, rfl⟩), rfl, (fun _ => rfl)⟩
theorem kf_X5_11 : k_fldr RX5 11 5 0 3 := ⟨RX5, TX5, rfl, inK5, by decide, fl_X5_11⟩
theorem kp_X5_15 : k_fld RX5 15 5 1 3 true := ⟨RX5, TX5, tyX5, rfl, inK5, by decide, fl_X5_15, tyX5_ok, nmX5, (fun h => by cases h), (fun _ v hv => by rcases hv with rfl | ⟨a, rfl⟩ <;> exact ⟨rfl, rfl⟩), rfl, (fun _ => rfl)⟩
theorem kf_X5_15 : k_fldr RX5 15 5 1 3 := ⟨RX5, TX5, rfl, inK5, by decide, fl_X5_15⟩
theorem kp_X6_68 : k_fld RX6 68 5 2 3 false := ⟨RX5, TX5, tyX5, rfl, inK5, by decide, fl_X6_68, tyX5_ok, nmX5, (fun _ => rfl), (fun h => by cases h), rfl, (fun h => by cases h)⟩
theorem kf_X6_68 : k_fldr RX6 68 5 2 3 := ⟨RX5, TX5, rfl, inK5, by decide, fl_X6_68⟩
theorem kp_X5_19 : k_fld RX5 19 5 2 3 false := ⟨RX5, TX5, tyX5, rfl, inK5, by decide, fl_X5_19, tyX5_ok, nmX5, (fun _ => rfl), (fun h => by cases h), rfl, (fun h => by cases h)⟩
theorem kf_X5_19 : k_fldr RX5 19 5 2 3 := ⟨RX5, TX5, rfl, inK5, by decide, fl_X5_19⟩
theorem kp_X2_50 : k_fld RX2 50 5 2 3 false := ⟨RX5, TX5, tyX5, rfl, inK5, by decide, fl_X2_50, tyX5_ok, nmX5, (fun _ => rfl), (fun h => by cases h), rfl, (fun h => by cases h)⟩
theorem kf_X2_50 : k_fldr RX2 50 5 2 3 := ⟨RX5, TX5, rfl, inK5, by decide, fl_X2_50⟩
theorem kp_X2_9 : k_fld RX2 9 2 0 10 true := ⟨RX2, TX2, tyX2, rfl, inK2, by decide, fl_X2_9, tyX2_ok, nmX2, (fun h => by cases h), (fun _ v hv => by rcases hv with rfl | ⟨a, rfl⟩ <;> exact ⟨rfl, rfl⟩), rfl, (fun _ => rfl)⟩
theorem kf_X2_9 : k_fldr RX2 9 2 0 10 := ⟨RX2, TX2, rfl, inK2, by decide, fl_X2_9⟩
theorem kp_X2_15 : k_fld RX2 15 2 1 10 true := ⟨RX2, TX2, tyX2, rfl, inK2, by decide, fl_X2_15, tyX2_ok, nmX2, (fun h => by cases h), (fun _ v hv => by rcases hv with rfl | ⟨a, rfl⟩ <;> exact ⟨rfl, rfl⟩), rfl, (fun _ => rfl)⟩
theorem kf_X2_15 : k_fldr RX2 15 2 1 10 := ⟨RX2, TX2, rfl, inK2, by decide, fl_X2_15⟩
theorem kp_X2_18 : k_fld RX2 18 2 2 10 true := ⟨RX2, TX2, tyX2, rfl, inK2, by decide, fl_X2_18, tyX2_ok, nmX2, (fun h => by cases h), (fun _ v hv => by rcases hv with rfl | ⟨a, rfl⟩ <;> exact ⟨rfl, rfl⟩), rfl, (fun _ => rfl)⟩
theorem kf_X2_18 : k_fldr RX2 18 2 2 10 := ⟨RX2, TX2, rfl, inK2, by decide, fl_X2_18⟩
theorem kp_X2_21 : k_fld RX2 21 2 3 10 true := ⟨RX2, TX2, tyX2, rfl, inK2, by decide, fl_X2_21, tyX2_ok, nmX2, (fun h => by cases h), (fun _ v hv => by rcases hv with rfl | ⟨a, rfl⟩ <;> exact ⟨rfl, rfl⟩), rfl, (fun _ => rfl)⟩
theorem kf_X2_21 : k_fldr RX2 21 2 3 10 := ⟨RX2, TX2, rfl, inK2, by decide, fl_X2_21⟩
theorem kp_X2_24 : k_fld RX2 24 2 4 10 true := ⟨RX2, TX2, tyX2, rfl, inK2, by decide, fl_X2_24, tyX2_ok, nmX2, (fun h => by cases h), (fun _ v hv => by rcases hv with rfl | ⟨a, rfl⟩ <;> exact ⟨rfl, rfl⟩), rfl, (fun _ => rfl)⟩
theorem kf_X2_24 : k_fldr RX2 24 2 4 10 := ⟨RX2, TX2, rfl, inK2, by decide, fl_X2_24⟩
theorem kp_X2_27 : k_fld RX2 27 2 5 10 false := ⟨RX2, TX2, tyX2, rfl, inK2, by decide, fl_X2_27, tyX2_ok, nmX2, (fun _ => rfl), (fun h => by cases h), rfl, (fun h => by cases h)⟩
theorem kf_X2_27 : k_fldr RX2 27 2 5 10 := ⟨RX2, TX2, rfl, inK2, by decide, fl_X2_27⟩
theorem kp_X0_63 : k_fld RX0 63 2 5 10 false := ⟨RX2, TX2, tyX2, rfl, inK2, by decide, fl_X0_63, tyX2_ok, nmX2, (fun _ => rfl), (fun h => by cases h), rfl, (fun h => by cases h)⟩
theorem kf_X0_63 : k_fldr RX0 63 2 5 10 := ⟨RX2, TX2, rfl, inK2, by decide, fl_X0_63⟩
theorem kp_X6_94 : k_fld RX6 94 2 5 10 false := ⟨RX2, TX2, tyX2, rfl, inK2, by decide, fl_X6_94, tyX2_ok, nmX2, (fun _ => rfl), (fun h => by cases h), rfl, (fun h => by cases h)⟩
theorem kf_X6_94 : k_fldr RX6 94 2 5 10 := ⟨RX2, TX2, rfl, inK2, by decide, fl_X6_94⟩
theorem kp_X2_31 : k_fld RX2 31 2 6 10 false := ⟨RX2, TX2, tyX2, rfl, inK2, by decide, fl_X2_31, tyX2_ok, nmX2, (fun _ => rfl), (fun h => by cases h), rfl, (fun h => by cases h)⟩
theorem kf_X2_31 : k_fldr RX2 31 2 6 10 := ⟨RX2, TX2, rfl, inK2, by decide, fl_X2_31⟩
theorem kp_X0_26 : k_fld RX0 26 2 6 10 false := ⟨RX2, TX2, tyX2, rfl, inK2, by decide, fl_X0_26, tyX2_ok, nmX2, (fun _ => rfl), (fun h => by cases h), rfl, (fun h => by cases h)⟩
theorem kf_X0_26 : k_fldr RX0 26 2 6 10 := ⟨RX2, TX2, rfl, inK2, by decide, fl_X0_26⟩
theorem kp_X1_64 : k_fld RX1 64 2 6 10 false := ⟨RX2, TX2, tyX2, rfl, inK2, by decide, fl_X1_64, tyX2_ok, nmX2, (fun _ => rfl), (fun h => by cases h), rfl, (fun h => by cases h)⟩
theorem kf_X1_64 : k_fldr RX1 64 2 6 10 := ⟨RX2, TX2, rfl, inK2, by decide, fl_X1_64⟩
theorem kp_X6_227 : k_fld RX6 227 2 6 10 false := ⟨RX2, TX2, tyX2, rfl, inK2, by decide, fl_X6_227, tyX2_ok, nmX2, (fun _ => rfl), (fun h => by cases h), rfl, (fun h => by cases h)⟩
theorem kf_X6_227 : k_fldr RX6 227 2 6 10 := ⟨RX2, TX2, rfl, inK2, by decide, fl_X6_227⟩
theorem kp_X2_34 : k_fld RX2 34 2 7 10 false := ⟨RX2, TX2, tyX2, rfl, inK2, by decide, fl_X2_34, tyX2_ok, nmX2, (fun _ => rfl), (fun h => by cases h), rfl, (fun h => by cases h)⟩
theorem kf_X2_34 : k_fldr RX2 34 2 7 10 := ⟨RX2, TX2, rfl, inK2, by decide, fl_X2_34⟩
theorem kp_X6_234 : k_fld RX6 234 2 7 10 false := ⟨RX2, TX2, tyX2, rfl, inK2, by decide, fl_X6_234, tyX2_ok, nmX2, (fun _ => rfl), (fun h => by cases h), rfl, (fun h => by cases h)⟩
theorem kf_X6_234 : k_fldr RX6 234 2 7 10 := ⟨RX2, TX2, rfl, inK2, by decide, fl_X6_234⟩
theorem kp_X2_37 : k_fld RX2 37 2 8 10 false := ⟨RX2, TX2, tyX2, rfl, inK2, by decide, fl_X2_37, tyX2_ok, nmX2, (fun _ => rfl), (fun h => by cases h), rfl, (fun h => by cases h)⟩
theorem kf_X2_37 : k_fldr RX2 37 2 8 10 := ⟨RX2, TX2, rfl, inK2, by decide, fl_X2_37⟩
theorem kp_X6_253 : k_fld RX6 253 2 8 10 false := ⟨RX2, TX2, tyX2, rfl, inK2, by decide, fl_X6_253, tyX2_ok, nmX2, (fun _ => rfl), (fun h => by cases h), rfl, (fun h => by cases h)⟩
theorem kf_X6_253 : k_fldr RX6 253 2 8 10 := ⟨RX2, TX2, rfl, inK2, by decide, fl_X6_253⟩
theorem kp_X2_40 : k_fld RX2 40 2 9 10 false := ⟨RX2, TX2, tyX2, rfl, inK2, by decide, fl_X2_40, tyX2_ok, nmX2, (fun _ => rfl), (fun h => by cases h), rfl, (fun h => by cases h)⟩
theorem kf_X2_40 : k_fldr RX2 40 2 9 10 := ⟨RX2, TX2, rfl, inK2, by decide, fl_X2_40⟩
theorem kp_X0_87 : k_fld RX0 87 2 9 10 false := ⟨RX2, TX2, tyX2, rfl, inK2, by decide, fl_X0_87, tyX2_ok, nmX2, (fun _ => rfl), (fun h => by cases h), rfl, (fun h => by cases h)⟩
theorem kf_X0_87 : k_fldr RX0 87 2 9 10 := ⟨RX2, TX2, rfl, inK2, by decide, fl_X0_87⟩
theorem kp_X6_256 : k_fld RX6 256 2 9 10 false := ⟨RX2, TX2, tyX2, rfl, inK2, by decide, fl_X6_256, tyX2_ok, nmX2, (fun _ => rfl), (fun h => by cases h), rfl, (fun h => by cases h)⟩
theorem kf_X6_256 : k_fldr RX6 256 2 9 10 := ⟨RX2, TX2, rfl, inK2, by decide, fl_X6_256⟩
theorem kp_X4_11 : k_fld RX4 11 4 0 3 true := ⟨RX4, TX4, tyX4, rfl, inK4, by decide, fl_X4_11, tyX4_ok, nmX4, (fun h => by cases h), (fun _ v hv => by rcases hv with rfl | ⟨a, rfl⟩ <;> exact ⟨rfl, rfl⟩), rfl, (fun _ => rfl)⟩
theorem kf_X4_11 : k_fldr RX4 11 4 0 3 := ⟨RX4, TX4, rfl, inK4, by decide, fl_X4_11⟩
theorem kp_X4_15 : k_fld RX4 15 4 1 3 false := ⟨RX4, TX4, tyX4, rfl, inK4, by decide, fl_X4_15, tyX4_ok, nmX4, (fun _ => rfl), (fun h => by cases h), rfl, (fun h => by cases h)⟩
theorem kf_X4_15 : k_fldr RX4 15 4 1 3 := ⟨RX4, TX4, rfl, inK4, by decide, fl_X4_15⟩
theorem kp_X0_53 : k_fld RX0 53 4 1 3 false := ⟨RX4, TX4, tyX4, rfl, inK4, by decide, fl_X0_53, tyX4_ok, nmX4, (fun _ => rfl), (fun h => by cases h), rfl, (fun h => by cases h)⟩
theorem kf_X0_53 : k_fldr RX0 53 4 1 3 := ⟨RX4, TX4, rfl, inK4, by decide, fl_X0_53⟩
theorem kp_X6_114 : k_fld RX6 114 4 1 3 false := ⟨RX4, TX4, tyX4, rfl, inK4, by decide, fl_X6_114, tyX4_ok, nmX4, (fun _ => rfl), (fun h => by cases h), rfl, (fun h => by cases h)⟩
theorem kf_X6_114 : k_fldr RX6 114 4 1 3 := ⟨RX4, TX4, rfl, inK4, by decide, fl_X6_114⟩
theorem kp_X2_114 : k_fld RX2 114 4 1 3 false := ⟨RX4, TX4, tyX4, rfl, inK4, by decide, fl_X2_114, tyX4_ok, nmX4, (fun _ => rfl), (fun h => by cases h), rfl, (fun h => by cases h)⟩
theorem kf_X2_114 : k_fldr RX2 114 4 1 3 := ⟨RX4, TX4, rfl, inK4, by decide, fl_X2_114⟩
theorem kp_X4_19 : k_fld RX4 19 4 2 3 false := ⟨RX4, TX4, tyX4, rfl, inK4, by decide, fl_X4_19, tyX4_ok, nmX4, (fun _ => rfl), (fun h => by cases h), rfl, (fun h => by cases h)⟩
theorem kf_X4_19 : k_fldr RX4 19 4 2 3 := ⟨RX4, TX4, rfl, inK4, by decide, fl_X4_19⟩
theorem kp_X0_60 : k_fld RX0 60 4 2 3 false := ⟨RX4, TX4, tyX4, rfl, inK4, by decide, fl_X0_60, tyX4_ok, nmX4, (fun _ => rfl), (fun h => by cases h), rfl, (fun h => by cases h)⟩
theorem kf_X0_60 : k_fldr RX0 60 4 2 3 := ⟨RX4, TX4, rfl, inK4, by decide, fl_X0_60⟩
theorem kp_X6_221 : k_fld RX6 221 4 2 3 false := ⟨RX4, TX4, tyX4, rfl, inK4, by decide, fl_X6_221, tyX4_ok, nmX4, (fun _ => rfl), (fun h => by cases h), rfl, (fun h => by cases h)⟩
theorem kf_X6_221 : k_fldr RX6 221 4 2 3 := ⟨RX4, TX4, rfl, inK4, by decide, fl_X6_221⟩
theorem kp_X3_15 : k_fld RX3 15 3 0 2 true := ⟨RX3, TX3, tyX3, rfl, inK3, by decide, fl_X3_15, tyX3_ok, nmX3, (fun h => by cases h), (fun _ v hv => by rcases hv with rfl | ⟨a, rfl⟩ <;> exact ⟨rfl, rfl⟩), rfl, (fun _ => rfl)⟩
theorem kf_X3_15 : k_fldr RX3 15 3 0 2 := ⟨RX3, TX3, rfl, inK3, by decide, fl_X3_15⟩
theorem kp_X3_22 : k_fld RX3 22 3 1 2 false := ⟨RX3, TX3, tyX3, rfl, inK3, by decide, fl_X3_22, tyX3_ok, nmX3, (fun _ => rfl), (fun h => by cases h), rfl, (fun h => by cases h)⟩
theorem kf_X3_22 : k_fldr RX3 22 3 1 2 := ⟨RX3, TX3, rfl, inK3, by decide, fl_X3_22⟩
theorem kp_X6_179 : k_fld RX6 179 3 1 2 false := ⟨RX3, TX3, tyX3, rfl, inK3, by decide, fl_X6_179, tyX3_ok, nmX3, (fun _ => rfl), (fun h => by cases h), rfl, (fun h => by cases h)⟩
theorem kf_X6_179 : k_fldr RX6 179 3 1 2 := ⟨RX3, TX3, rfl, inK3, by decide, fl_X6_179⟩
theorem kp_X0_18 : k_fld RX0 18 0 0 2 true := ⟨RX0, TX0, tyX0, rfl, inK0, by decide, fl_X0_18, tyX0_ok, nmX0, (fun h => by cases h), (fun _ v hv => by rcases hv with rfl | ⟨a, rfl⟩ <;> exact ⟨rfl, rfl⟩), rfl, (fun _ => rfl)⟩
theorem kf_X0_18 : k_fldr RX0 18 0 0 2 := ⟨RX0, TX0, rfl, inK0, by decide, fl_X0_18⟩
theorem kp_X0_12 : k_fld RX0 12 0 1 2 true := ⟨RX0, TX0, tyX0, rfl, inK0, by decide, fl_X0_12, tyX0_ok, nmX0, (fun h => by cases h), (fun _ v hv => by rcases hv with rfl | ⟨a, rfl⟩ <;> exact ⟨rfl, rfl⟩), rfl, (fun _ => rfl)⟩
theorem kf_X0_12 : k_fldr RX0 12 0 1 2 := ⟨RX0, TX0, rfl, inK0, by decide, fl_X0_12⟩
theorem kf_X6_191 : k_fldr RX6 191 0 1 2 := ⟨RX0, TX0, rfl, inK0, by decide, fl_X6_191⟩
theorem kp_X1_27 : k_fld RX1 27 1 0 7 true := ⟨RX1, TX1, tyX1, rfl, inK1, by decide, fl_X1_27, tyX1_ok, nmX1, (fun h => by cases h), (fun _ v hv => by rcases hv with rfl | ⟨a, rfl⟩ <;> exact ⟨rfl, rfl⟩), rfl, (fun _ => rfl)⟩
theorem kf_X1_27 : k_fldr RX1 27 1 0 7 := ⟨RX1, TX1, rfl, inK1, by decide, fl_X1_27⟩
theorem kp_X1_9 : k_fld RX1 9 1 1 7 true := ⟨RX1, TX1, tyX1, rfl, inK1, by decide, fl_X1_9, tyX1_ok, nmX1, (fun h => by cases h), (fun _ v hv => by rcases hv with rfl | ⟨a, rfl⟩ <;> exact ⟨rfl, rfl⟩), rfl, (fun _ => rfl)⟩
theorem kf_X1_9 : k_fldr RX1 9 1 1 7 := ⟨RX1, TX1, rfl, inK1, by decide, fl_X1_9⟩
theorem kp_X1_15 : k_fld RX1 15 1 2 7 true := ⟨RX1, TX1, tyX1, rfl, inK1, by decide, fl_X1_15, tyX1_ok, nmX1, (fun h => by cases h), (fun _ v hv => by rcases hv with rfl | ⟨a, rfl⟩ <;> exact ⟨rfl, rfl⟩), rfl, (fun _ => rfl)⟩
theorem kf_X1_15 : k_fldr RX1 15 1 2 7 := ⟨RX1, TX1, rfl, inK1, by decide, fl_X1_15⟩
theorem kp_X1_18 : k_fld RX1 18 1 3 7 true := ⟨RX1, TX1, tyX1, rfl, inK1, by decide, fl_X1_18, tyX1_ok, nmX1, (fun h => by cases h), (fun _ v hv => by rcases hv with rfl | ⟨a, rfl⟩ <;> exact ⟨rfl, rfl⟩), rfl, (fun _ => rfl)⟩
theorem kf_X1_18 : k_fldr RX1 18 1 3 7 := ⟨RX1, TX1, rfl, inK1, by decide, fl_X1_18⟩
theorem kp_X1_21 : k_fld RX1 21 1 4 7 true := ⟨RX1, TX1, tyX1, rfl, inK1, by decide, fl_X1_21, tyX1_ok, nmX1, (fun h => by cases h), (fun _ v hv => by rcases hv with rfl | ⟨a, rfl⟩ <;> exact ⟨rfl, rfl⟩), rfl, (fun _ => rfl)⟩
theorem kf_X1_21 : k_fldr RX1 21 1 4 7 := ⟨RX1, TX1, rfl, inK1, by decide, fl_X1_21⟩
theorem kp_X1_24 : k_fld RX1 24 1 5 7 true := ⟨RX1, TX1, tyX1, rfl, inK1, by decide, fl_X1_24, tyX1_ok, nmX1, (fun h => by cases h), (fun _ v hv => by rcases hv with rfl | ⟨a, rfl⟩ <;> exact ⟨rfl, rfl⟩), rfl, (fun _ => rfl)⟩
theorem kf_X1_24 : k_fldr RX1 24 1 5 7 := ⟨RX1, TX1, rfl, inK1, by decide, fl_X1_24⟩
theorem kp_X1_56 : k_fld RX1 56 1 6 7 false := ⟨RX1, TX1, tyX1, rfl, inK1, by decide, fl_X1_56, tyX1_ok, nmX1, (fun _ => rfl), (fun h => by cases h), rfl, (fun h => by cases h)⟩
theorem kf_X1_56 : k_fldr RX1 56 1 6 7 := ⟨RX1, TX1, rfl, inK1, by decide, fl_X1_56⟩
theorem kp_X6_204 : k_fld RX6 204 1 6 7 false := ⟨RX1, TX1, tyX1, rfl, inK1, by decide, fl_X6_204, tyX1_ok, nmX1, (fun _ => rfl), (fun h => by cases h), rfl, (fun h => by cases h)⟩
theorem kf_X6_204 : k_fldr RX6 204 1 6 7 := ⟨RX1, TX1, rfl, inK1, by decide, fl_X6_204⟩
theorem kp_X6_10 : k_fld RX6 10 6 0 7 true := ⟨RX6, TX6, tyX6, rfl, inK6, by decide, fl_X6_10, tyX6_ok, nmX6, (fun h => by cases h), (fun _ v hv => by rcases hv with rfl | ⟨a, rfl⟩ <;> exact ⟨rfl, rfl⟩), rfl, (fun _ => rfl)⟩
theorem kf_X6_10 : k_fldr RX6 10 6 0 7 := ⟨RX6, TX6, rfl, inK6, by decide, fl_X6_10⟩
theorem kp_X6_19 : k_fld RX6 19 6 1 7 true := ⟨RX6, TX6, tyX6, rfl, inK6, by decide, fl_X6_19, tyX6_ok, nmX6, (fun h => by cases h), (fun _ v hv => by rcases hv with rfl | ⟨a, rfl⟩ <;> exact ⟨rfl, rfl⟩), rfl, (fun _ => rfl)⟩
theorem kf_X6_19 : k_fldr RX6 19 6 1 7 := ⟨RX6, TX6, rfl, inK6, by decide, fl_X6_19⟩
theorem kp_X6_26 : k_fld RX6 26 6 2 7 true := ⟨RX6, TX6, tyX6, rfl, inK6, by decide, fl_X6_26, tyX6_ok, nmX6, (fun h => by cases h), (fun _ v hv => by rcases hv with rfl | ⟨a, rfl⟩ <;> exact ⟨rfl, rfl⟩), rfl, (fun _ => rfl)⟩
theorem kf_X6_26 : k_fldr RX6 26 6 2 7 := ⟨RX6, TX6, rfl, inK6, by decide, fl_X6_26⟩
theorem kp_X6_35 : k_fld RX6 35 6 3 7 true := ⟨RX6, TX6, tyX6, rfl, inK6, by decide, fl_X6_35, tyX6_ok, nmX6, (fun h => by cases h), (fun _ v hv => by rcases hv with rfl | ⟨a, rfl⟩ <;> exact ⟨rfl, rfl⟩), rfl, (fun _ => rfl)⟩
theorem kf_X6_35 : k_fldr RX6 35 6 3 7 := ⟨RX6, TX6, rfl, inK6, by decide, fl_X6_35⟩
theorem kp_X6_39 : k_fld RX6 39 6 4 7 true := ⟨RX6, TX6, tyX6, rfl, inK6, by decide, fl_X6_39, tyX6_ok, nmX6, (fun h => by cases h), (fun _ v hv => by rcases hv with rfl | ⟨a, rfl⟩ <;> exact ⟨rfl, rfl⟩), rfl, (fun _ => rfl)⟩
theorem kf_X6_39 : k_fldr RX6 39 6 4 7 := ⟨RX6, TX6, rfl, inK6, by decide, fl_X6_39⟩
theorem kp_X6_47 : k_fld RX6 47 6 5 7 true := ⟨RX6, TX6, tyX6, rfl, inK6, by decide, fl_X6_47, tyX6_ok, nmX6, (fun h => by cases h), (fun _ v hv => by rcases hv with rfl | ⟨a, rfl⟩ <;> exact ⟨rfl, rfl⟩), rfl, (fun _ => rfl)⟩
theorem kf_X6_47 : k_fldr RX6 47 6 5 7 := ⟨RX6, TX6, rfl, inK6, by decide, fl_X6_47⟩
theorem kp_X6_54 : k_fld RX6 54 6 6 7 true := ⟨RX6, TX6, tyX6, rfl, inK6, by decide, fl_X6_54, tyX6_ok, nmX6, (fun h => by cases h), (fun _ v hv => by rcases hv with rfl | ⟨a, rfl⟩ <;> exact ⟨rfl, rfl⟩), rfl, (fun _ => rfl)⟩
theorem kf_X6_54 : k_fldr RX6 54 6 6 7 := ⟨RX6, TX6, rfl, inK6, by decide, fl_X6_54⟩
theorem kp_X7_7 : k_fld RX7 7 7 0 14 true := ⟨RX7, TX7, tyX7, rfl, inK7, by decide, fl_X7_7, tyX7_ok, nmX7, (fun h => by cases h), (fun _ v hv => by rcases hv with rfl | ⟨a, rfl⟩ <;> exact ⟨rfl, rfl⟩), rfl, (fun _ => rfl)⟩
theorem kf_X7_7 : k_fldr RX7 7 7 0 14 := ⟨RX7, TX7, rfl, inK7, by decide, fl_X7_7⟩
theorem kp_X7_58 : k_fld RX7 58 7 1 14 false := ⟨RX7, TX7, tyX7, rfl, inK7, by decide, fl_X7_58, tyX7_ok, nmX7, (fun _ => rfl), (fun h => by cases h), rfl, (fun h => by cases h)⟩
theorem kf_X7_58 : k_fldr RX7 58 7 1 14 := ⟨RX7, TX7, rfl, inK7, by decide, fl_X7_58⟩
theorem kp_X7_13 : k_fld RX7 13 7 2 14 true := ⟨RX7, TX7, tyX7, rfl, inK7, by decide, fl_X7_13, tyX7_ok, nmX7, (fun h => by cases h), (fun _ v hv => by rcases hv with rfl | ⟨a, rfl⟩ <;> exact ⟨rfl, rfl⟩), rfl, (fun _ => rfl)⟩
theorem kf_X7_13 : k_fldr RX7 13 7 2 14 := ⟨RX7, TX7, rfl, inK7, by decide, fl_X7_13⟩
theorem kp_X7_16 : k_fld RX7 16 7 3 14 true := ⟨RX7, TX7, tyX7, rfl, inK7, by decide, fl_X7_16, tyX7_ok, nmX7, (fun h => by cases h), (fun _ v hv => by rcases hv with rfl | ⟨a, rfl⟩ <;> exact ⟨rfl, rfl⟩), rfl, (fun _ => rfl)⟩
theorem kf_X7_16 : k_fldr RX7 16 7 3 14 := ⟨RX7, TX7, rfl, inK7, by decide, fl_X7_16⟩
theorem kp_X7_19 : k_fld RX7 19 7 4 14 true := ⟨RX7, TX7, tyX7, rfl, inK7, by decide, fl_X7_19, tyX7_ok, nmX7, (fun h => by cases h), (fun _ v hv => by rcases hv with rfl | ⟨a, rfl⟩ <;> exact ⟨rfl, rfl⟩), rfl, (fun _ => rfl)⟩
theorem kf_X7_19 : k_fldr RX7 19 7 4 14 := ⟨RX7, TX7, rfl, inK7, by decide, fl_X7_19⟩
theorem kp_X7_22 : k_fld RX7 22 7 5 14 true := ⟨RX7, TX7, tyX7, rfl, inK7, by decide, fl_X7_22, tyX7_ok, nmX7, (fun h => by cases h), (fun _ v hv => by rcases hv with rfl | ⟨a, rfl⟩ <;> exact ⟨rfl, rfl⟩), rfl, (fun _ => rfl)⟩
theorem kf_X7_22 : k_fldr RX7 22 7 5 14 := ⟨RX7, TX7, rfl, inK7, by decide, fl_X7_22⟩
theorem kp_X7_25 : k_fld RX7 25 7 6 14 true := ⟨RX7, TX7, tyX7, rfl, inK7, by decide, fl_X7_25, tyX7_ok, nmX7, (fun h => by cases h), (fun _ v hv => by rcases hv with rfl | ⟨a, rfl⟩ <;> exact ⟨rfl, rfl⟩), rfl, (fun _ => rfl)⟩
theorem kf_X7_25 : k_fldr RX7 25 7 6 14 := ⟨RX7, TX7, rfl, inK7, by decide, fl_X7_25⟩
theorem kp_X7_84 : k_fld RX7 84 7 7 14 false := ⟨RX7, TX7, tyX7, rfl, inK7, by decide, fl_X7_84, tyX7_ok, nmX7, (fun _ => rfl), (fun h => by cases h), rfl, (fun h => by cases h)⟩
theorem kf_X7_84 : k_fldr RX7 84 7 7 14 := ⟨RX7, TX7, rfl, inK7, by decide, fl_X7_84⟩
theorem kp_X7_28 : k_fld RX7 28 7 8 14 true := ⟨RX7, TX7, tyX7, rfl, inK7, by decide, fl_X7_28, tyX7_ok, nmX7, (fun h => by cases h), (fun _ v hv => by rcases hv with rfl | ⟨a, rfl⟩ <;> exact ⟨rfl, rfl⟩), rfl, (fun _ => rfl)⟩
theorem kf_X7_28 : k_fldr RX7 28 7 8 14 := ⟨RX7, TX7, rfl, inK7, by decide, fl_X7_28⟩
theorem kp_X7_87 : k_fld RX7 87 7 9 14 false := ⟨RX7, TX7, tyX7, rfl, inK7, by decide, fl_X7_87, tyX7_ok, nmX7, (fun _ => rfl), (fun h => by cases h), rfl, (fun h => by cases h)⟩
theorem kf_X7_87 : k_fldr RX7 87 7 9 14 := ⟨RX7, TX7, rfl, inK7, by decide, fl_X7_87⟩
theorem kp_X7_62 : k_fld RX7 62 7 10 14 false := ⟨RX7, TX7, tyX7, rfl, inK7, by decide, fl_X7_62, tyX7_ok, nmX7, (fun _ => rfl), (fun h => by cases h), rfl, (fun h => by cases h)⟩
theorem kf_X7_62 : k_fldr RX7 62 7 10 14 := ⟨RX7, TX7, rfl, inK7, by decide, fl_X7_62⟩
theorem kp_X7_31 : k_fld RX7 31 7 11 14 true := ⟨RX7, TX7, tyX7, rfl, inK7, by decide, fl_X7_31, tyX7_ok, nmX7, (fun h => by cases h), (fun _ v hv => by rcases hv with rfl | ⟨a, rfl⟩ <;> exact ⟨rfl, rfl⟩), rfl, (fun _ => rfl)⟩
theorem kf_X7_31 : k_fldr RX7 31 7 11 14 := ⟨RX7, TX7, rfl, inK7, by decide, fl_X7_31⟩
theorem kp_X7_34 : k_fld RX7 34 7 12 14 true := ⟨RX7, TX7, tyX7, rfl, inK7, by decide, fl_X7_34, tyX7_ok, nmX7, (fun h => by cases h), (fun _ v hv => by rcases hv with rfl | ⟨a, rfl⟩ <;> exact ⟨rfl, rfl⟩), rfl, (fun _ => rfl)⟩
theorem kf_X7_34 : k_fldr RX7 34 7 12 14 := ⟨RX7, TX7, rfl, inK7, by decide, fl_X7_34⟩
theorem kp_X7_37 : k_fld RX7 37 7 13 14 true := ⟨RX7, TX7, tyX7, rfl, inK7, by decide, fl_X7_37, tyX7_ok, nmX7, (fun h => by cases h), (fun _ v hv => by rcases hv with rfl | ⟨a, rfl⟩ <;> exact ⟨rfl, rfl⟩), rfl, (fun _ => rfl)⟩
theorem kf_X7_37 : k_fldr RX7 37 7 13 14 := ⟨RX7, TX7, rfl, inK7, by decide, fl_X7_37⟩
theorem km_L_7 : k_mk RL 7 6 7 := ⟨RX6, TX6, tyX6, rfl, inK6, cl_L_7, is_X6, in_X6, tyX6_ok, by decide +kernel, by decide⟩
theorem km_X6_7 : k_mk RX6 7 5 3 := ⟨RX5, TX5, tyX5, rfl, inK5, cl_X6_7, is_X5, in_X5, tyX5_ok, by decide +kernel, by decide⟩
theorem km_X6_16 : k_mk RX6 16 2 10 := ⟨RX2, TX2, tyX2, rfl, inK2, cl_X6_16, is_X2, in_X2, tyX2_ok, by decide +kernel, by decide⟩
theorem km_X6_23 : k_mk RX6 23 4 3 := ⟨RX4, TX4, tyX4, rfl, inK4, cl_X6_23, is_X4, in_X4, tyX4_ok, by decide +kernel, by decide⟩
theorem km_X6_30 : k_mk RX6 30 3 2 := ⟨RX3, TX3, tyX3, rfl, inK3, cl_X6_30, is_X3, in_X3, tyX3_ok, by decide +kernel, by decide⟩
theorem km_X3_13 : k_mk RX3 13 4 3 := ⟨RX4, TX4, tyX4, rfl, inK4, cl_X3_13, is_X4, in_X4, tyX4_ok, by decide +kernel, by decide⟩
theorem km_X6_42 : k_mk RX6 42 0 2 := ⟨RX0, TX0, tyX0, rfl, inK0, cl_X6_42, is_X0, in_X0, tyX0_ok, by decide +kernel, by decide⟩
theorem km_X0_9 : k_mk RX0 9 4 3 := ⟨RX4, TX4, tyX4, rfl, inK4, cl_X0_9, is_X4, in_X4, tyX4_ok, by decide +kernel, by decide⟩
theorem km_X6_51 : k_mk RX6 51 1 7 := ⟨RX1, TX1, tyX1, rfl, inK1, cl_X6_51, is_X1, in_X1, tyX1_ok, by decide +kernel, by decide⟩
theorem km_L_10 : k_mk RL 10 7 14 := ⟨RX7, TX7, tyX7, rfl, inK7, cl_L_10, is_X7, in_X7, tyX7_ok, by decide +kernel, by decide⟩
