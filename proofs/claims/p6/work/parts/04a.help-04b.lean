section
/-! ===== helper rows of the generated parts ===== -/
theorem fy_J6_bitCount_0f7a4 : yJ6_bitCount_0f7a4.cls ≠ "java/lang/invoke/MethodHandle" ∧ yJ6_bitCount_0f7a4.cls ≠ "java/lang/invoke/VarHandle" ∧ (parseMethodDescriptor yJ6_bitCount_0f7a4.desc).map (fun d => d.parameters.length) = some 1 := by decide +kernel
theorem fy_J7_copyOf_c38d5 : yJ7_copyOf_c38d5.cls ≠ "java/lang/invoke/MethodHandle" ∧ yJ7_copyOf_c38d5.cls ≠ "java/lang/invoke/VarHandle" ∧ (parseMethodDescriptor yJ7_copyOf_c38d5.desc).map (fun d => d.parameters.length) = some 2 := by decide +kernel
theorem fy_J7_fill_53178 : yJ7_fill_53178.cls ≠ "java/lang/invoke/MethodHandle" ∧ yJ7_fill_53178.cls ≠ "java/lang/invoke/VarHandle" ∧ (parseMethodDescriptor yJ7_fill_53178.desc).map (fun d => d.parameters.length) = some 2 := by decide +kernel
theorem fy_J7_fill_d0a16 : yJ7_fill_d0a16.cls ≠ "java/lang/invoke/MethodHandle" ∧ yJ7_fill_d0a16.cls ≠ "java/lang/invoke/VarHandle" ∧ (parseMethodDescriptor yJ7_fill_d0a16.desc).map (fun d => d.parameters.length) = some 2 := by decide +kernel
theorem fy_X0_addReach : yX0_addReach.cls ≠ "java/lang/invoke/MethodHandle" ∧ yX0_addReach.cls ≠ "java/lang/invoke/VarHandle" ∧ (parseMethodDescriptor yX0_addReach.desc).map (fun d => d.parameters.length) = some 3 := by decide +kernel
theorem fy_X0_easiest : yX0_easiest.cls ≠ "java/lang/invoke/MethodHandle" ∧ yX0_easiest.cls ≠ "java/lang/invoke/VarHandle" ∧ (parseMethodDescriptor yX0_easiest.desc).map (fun d => d.parameters.length) = some 1 := by decide +kernel
theorem fy_X0_findReach : yX0_findReach.cls ≠ "java/lang/invoke/MethodHandle" ∧ yX0_findReach.cls ≠ "java/lang/invoke/VarHandle" ∧ (parseMethodDescriptor yX0_findReach.desc).map (fun d => d.parameters.length) = some 1 := by decide +kernel
theorem fy_X0_firstAbove : yX0_firstAbove.cls ≠ "java/lang/invoke/MethodHandle" ∧ yX0_firstAbove.cls ≠ "java/lang/invoke/VarHandle" ∧ (parseMethodDescriptor yX0_firstAbove.desc).map (fun d => d.parameters.length) = some 2 := by decide +kernel
theorem fy_X0_init : yX0_init.cls ≠ "java/lang/invoke/MethodHandle" ∧ yX0_init.cls ≠ "java/lang/invoke/VarHandle" ∧ (parseMethodDescriptor yX0_init.desc).map (fun d => d.parameters.length) = some 0 := by decide +kernel
theorem fy_X0_isInReach : yX0_isInReach.cls ≠ "java/lang/invoke/MethodHandle" ∧ yX0_isInReach.cls ≠ "java/lang/invoke/VarHandle" ∧ (parseMethodDescriptor yX0_isInReach.desc).map (fun d => d.parameters.length) = some 2 := by decide +kernel
theorem fy_X0_keepOnTheWay : yX0_keepOnTheWay.cls ≠ "java/lang/invoke/MethodHandle" ∧ yX0_keepOnTheWay.cls ≠ "java/lang/invoke/VarHandle" ∧ (parseMethodDescriptor yX0_keepOnTheWay.desc).map (fun d => d.parameters.length) = some 3 := by decide +kernel
theorem fy_X0_tally : yX0_tally.cls ≠ "java/lang/invoke/MethodHandle" ∧ yX0_tally.cls ≠ "java/lang/invoke/VarHandle" ∧ (parseMethodDescriptor yX0_tally.desc).map (fun d => d.parameters.length) = some 3 := by decide +kernel
theorem fy_X10_append : yX10_append.cls ≠ "java/lang/invoke/MethodHandle" ∧ yX10_append.cls ≠ "java/lang/invoke/VarHandle" ∧ (parseMethodDescriptor yX10_append.desc).map (fun d => d.parameters.length) = some 1 := by decide +kernel
theorem fy_X10_clear : yX10_clear.cls ≠ "java/lang/invoke/MethodHandle" ∧ yX10_clear.cls ≠ "java/lang/invoke/VarHandle" ∧ (parseMethodDescriptor yX10_clear.desc).map (fun d => d.parameters.length) = some 0 := by decide +kernel
theorem fy_X10_cut : yX10_cut.cls ≠ "java/lang/invoke/MethodHandle" ∧ yX10_cut.cls ≠ "java/lang/invoke/VarHandle" ∧ (parseMethodDescriptor yX10_cut.desc).map (fun d => d.parameters.length) = some 1 := by decide +kernel
theorem fy_X10_init : yX10_init.cls ≠ "java/lang/invoke/MethodHandle" ∧ yX10_init.cls ≠ "java/lang/invoke/VarHandle" ∧ (parseMethodDescriptor yX10_init.desc).map (fun d => d.parameters.length) = some 0 := by decide +kernel
theorem fy_X10_isDigit : yX10_isDigit.cls ≠ "java/lang/invoke/MethodHandle" ∧ yX10_isDigit.cls ≠ "java/lang/invoke/VarHandle" ∧ (parseMethodDescriptor yX10_isDigit.desc).map (fun d => d.parameters.length) = some 1 := by decide +kernel
theorem fy_X10_signAt : yX10_signAt.cls ≠ "java/lang/invoke/MethodHandle" ∧ yX10_signAt.cls ≠ "java/lang/invoke/VarHandle" ∧ (parseMethodDescriptor yX10_signAt.desc).map (fun d => d.parameters.length) = some 1 := by decide +kernel
theorem fy_X11_bitOf : yX11_bitOf.cls ≠ "java/lang/invoke/MethodHandle" ∧ yX11_bitOf.cls ≠ "java/lang/invoke/VarHandle" ∧ (parseMethodDescriptor yX11_bitOf.desc).map (fun d => d.parameters.length) = some 1 := by decide +kernel
theorem fy_X11_climbAllTo : yX11_climbAllTo.cls ≠ "java/lang/invoke/MethodHandle" ∧ yX11_climbAllTo.cls ≠ "java/lang/invoke/VarHandle" ∧ (parseMethodDescriptor yX11_climbAllTo.desc).map (fun d => d.parameters.length) = some 1 := by decide +kernel
theorem fy_X11_costIn : yX11_costIn.cls ≠ "java/lang/invoke/MethodHandle" ∧ yX11_costIn.cls ≠ "java/lang/invoke/VarHandle" ∧ (parseMethodDescriptor yX11_costIn.desc).map (fun d => d.parameters.length) = some 1 := by decide +kernel
theorem fy_X11_divide : yX11_divide.cls ≠ "java/lang/invoke/MethodHandle" ∧ yX11_divide.cls ≠ "java/lang/invoke/VarHandle" ∧ (parseMethodDescriptor yX11_divide.desc).map (fun d => d.parameters.length) = some 2 := by decide +kernel
theorem fy_X11_effortIn : yX11_effortIn.cls ≠ "java/lang/invoke/MethodHandle" ∧ yX11_effortIn.cls ≠ "java/lang/invoke/VarHandle" ∧ (parseMethodDescriptor yX11_effortIn.desc).map (fun d => d.parameters.length) = some 1 := by decide +kernel
theorem fy_X11_entryOf : yX11_entryOf.cls ≠ "java/lang/invoke/MethodHandle" ∧ yX11_entryOf.cls ≠ "java/lang/invoke/VarHandle" ∧ (parseMethodDescriptor yX11_entryOf.desc).map (fun d => d.parameters.length) = some 2 := by decide +kernel
theorem fy_X11_fewestOver : yX11_fewestOver.cls ≠ "java/lang/invoke/MethodHandle" ∧ yX11_fewestOver.cls ≠ "java/lang/invoke/VarHandle" ∧ (parseMethodDescriptor yX11_fewestOver.desc).map (fun d => d.parameters.length) = some 1 := by decide +kernel
theorem fy_X11_find : yX11_find.cls ≠ "java/lang/invoke/MethodHandle" ∧ yX11_find.cls ≠ "java/lang/invoke/VarHandle" ∧ (parseMethodDescriptor yX11_find.desc).map (fun d => d.parameters.length) = some 1 := by decide +kernel
theorem fy_X11_haggle : yX11_haggle.cls ≠ "java/lang/invoke/MethodHandle" ∧ yX11_haggle.cls ≠ "java/lang/invoke/VarHandle" ∧ (parseMethodDescriptor yX11_haggle.desc).map (fun d => d.parameters.length) = some 0 := by decide +kernel
theorem fy_X11_hold : yX11_hold.cls ≠ "java/lang/invoke/MethodHandle" ∧ yX11_hold.cls ≠ "java/lang/invoke/VarHandle" ∧ (parseMethodDescriptor yX11_hold.desc).map (fun d => d.parameters.length) = some 1 := by decide +kernel
theorem fy_X11_isAsked : yX11_isAsked.cls ≠ "java/lang/invoke/MethodHandle" ∧ yX11_isAsked.cls ≠ "java/lang/invoke/VarHandle" ∧ (parseMethodDescriptor yX11_isAsked.desc).map (fun d => d.parameters.length) = some 1 := by decide +kernel
theorem fy_X11_isFamily : yX11_isFamily.cls ≠ "java/lang/invoke/MethodHandle" ∧ yX11_isFamily.cls ≠ "java/lang/invoke/VarHandle" ∧ (parseMethodDescriptor yX11_isFamily.desc).map (fun d => d.parameters.length) = some 1 := by decide +kernel
theorem fy_X11_lead : yX11_lead.cls ≠ "java/lang/invoke/MethodHandle" ∧ yX11_lead.cls ≠ "java/lang/invoke/VarHandle" ∧ (parseMethodDescriptor yX11_lead.desc).map (fun d => d.parameters.length) = some 3 := by decide +kernel
theorem fy_X11_measureAllAt : yX11_measureAllAt.cls ≠ "java/lang/invoke/MethodHandle" ∧ yX11_measureAllAt.cls ≠ "java/lang/invoke/VarHandle" ∧ (parseMethodDescriptor yX11_measureAllAt.desc).map (fun d => d.parameters.length) = some 1 := by decide +kernel
theorem fy_X11_mostPaid : yX11_mostPaid.cls ≠ "java/lang/invoke/MethodHandle" ∧ yX11_mostPaid.cls ≠ "java/lang/invoke/VarHandle" ∧ (parseMethodDescriptor yX11_mostPaid.desc).map (fun d => d.parameters.length) = some 0 := by decide +kernel
theorem fy_X11_movesIn : yX11_movesIn.cls ≠ "java/lang/invoke/MethodHandle" ∧ yX11_movesIn.cls ≠ "java/lang/invoke/VarHandle" ∧ (parseMethodDescriptor yX11_movesIn.desc).map (fun d => d.parameters.length) = some 1 := by decide +kernel
theorem fy_X11_of : yX11_of.cls ≠ "java/lang/invoke/MethodHandle" ∧ yX11_of.cls ≠ "java/lang/invoke/VarHandle" ∧ (parseMethodDescriptor yX11_of.desc).map (fun d => d.parameters.length) = some 2 := by decide +kernel
theorem fy_X11_payForMove : yX11_payForMove.cls ≠ "java/lang/invoke/MethodHandle" ∧ yX11_payForMove.cls ≠ "java/lang/invoke/VarHandle" ∧ (parseMethodDescriptor yX11_payForMove.desc).map (fun d => d.parameters.length) = some 2 := by decide +kernel
theorem fy_X11_row : yX11_row.cls ≠ "java/lang/invoke/MethodHandle" ∧ yX11_row.cls ≠ "java/lang/invoke/VarHandle" ∧ (parseMethodDescriptor yX11_row.desc).map (fun d => d.parameters.length) = some 1 := by decide +kernel
theorem fy_X11_step : yX11_step.cls ≠ "java/lang/invoke/MethodHandle" ∧ yX11_step.cls ≠ "java/lang/invoke/VarHandle" ∧ (parseMethodDescriptor yX11_step.desc).map (fun d => d.parameters.length) = some 2 := by decide +kernel
theorem fy_X11_sumOfPurses : yX11_sumOfPurses.cls ≠ "java/lang/invoke/MethodHandle" ∧ yX11_sumOfPurses.cls ≠ "java/lang/invoke/VarHandle" ∧ (parseMethodDescriptor yX11_sumOfPurses.desc).map (fun d => d.parameters.length) = some 0 := by decide +kernel
theorem fy_X11_sumUp : yX11_sumUp.cls ≠ "java/lang/invoke/MethodHandle" ∧ yX11_sumUp.cls ≠ "java/lang/invoke/VarHandle" ∧ (parseMethodDescriptor yX11_sumUp.desc).map (fun d => d.parameters.length) = some 2 := by decide +kernel
theorem fy_X11_tellDifferences : yX11_tellDifferences.cls ≠ "java/lang/invoke/MethodHandle" ∧ yX11_tellDifferences.cls ≠ "java/lang/invoke/VarHandle" ∧ (parseMethodDescriptor yX11_tellDifferences.desc).map (fun d => d.parameters.length) = some 0 := by decide +kernel
theorem fy_X11_tellFraction : yX11_tellFraction.cls ≠ "java/lang/invoke/MethodHandle" ∧ yX11_tellFraction.cls ≠ "java/lang/invoke/VarHandle" ∧ (parseMethodDescriptor yX11_tellFraction.desc).map (fun d => d.parameters.length) = some 2 := by decide +kernel
theorem fy_X11_tellMore : yX11_tellMore.cls ≠ "java/lang/invoke/MethodHandle" ∧ yX11_tellMore.cls ≠ "java/lang/invoke/VarHandle" ∧ (parseMethodDescriptor yX11_tellMore.desc).map (fun d => d.parameters.length) = some 1 := by decide +kernel
theorem fy_X11_tellNothing : yX11_tellNothing.cls ≠ "java/lang/invoke/MethodHandle" ∧ yX11_tellNothing.cls ≠ "java/lang/invoke/VarHandle" ∧ (parseMethodDescriptor yX11_tellNothing.desc).map (fun d => d.parameters.length) = some 0 := by decide +kernel
theorem fy_X11_tellOne : yX11_tellOne.cls ≠ "java/lang/invoke/MethodHandle" ∧ yX11_tellOne.cls ≠ "java/lang/invoke/VarHandle" ∧ (parseMethodDescriptor yX11_tellOne.desc).map (fun d => d.parameters.length) = some 1 := by decide +kernel
theorem fy_X11_tellTwo : yX11_tellTwo.cls ≠ "java/lang/invoke/MethodHandle" ∧ yX11_tellTwo.cls ≠ "java/lang/invoke/VarHandle" ∧ (parseMethodDescriptor yX11_tellTwo.desc).map (fun d => d.parameters.length) = some 2 := by decide +kernel
theorem fy_X11_treads : yX11_treads.cls ≠ "java/lang/invoke/MethodHandle" ∧ yX11_treads.cls ≠ "java/lang/invoke/VarHandle" ∧ (parseMethodDescriptor yX11_treads.desc).map (fun d => d.parameters.length) = some 2 := by decide +kernel
theorem fy_X11_weigh : yX11_weigh.cls ≠ "java/lang/invoke/MethodHandle" ∧ yX11_weigh.cls ≠ "java/lang/invoke/VarHandle" ∧ (parseMethodDescriptor yX11_weigh.desc).map (fun d => d.parameters.length) = some 1 := by decide +kernel
theorem fy_X11_weighAlone : yX11_weighAlone.cls ≠ "java/lang/invoke/MethodHandle" ∧ yX11_weighAlone.cls ≠ "java/lang/invoke/VarHandle" ∧ (parseMethodDescriptor yX11_weighAlone.desc).map (fun d => d.parameters.length) = some 1 := by decide +kernel
theorem fy_X12_begin : yX12_begin.cls ≠ "java/lang/invoke/MethodHandle" ∧ yX12_begin.cls ≠ "java/lang/invoke/VarHandle" ∧ (parseMethodDescriptor yX12_begin.desc).map (fun d => d.parameters.length) = some 3 := by decide +kernel
theorem fy_X12_costOf : yX12_costOf.cls ≠ "java/lang/invoke/MethodHandle" ∧ yX12_costOf.cls ≠ "java/lang/invoke/VarHandle" ∧ (parseMethodDescriptor yX12_costOf.desc).map (fun d => d.parameters.length) = some 3 := by decide +kernel
theorem fy_X12_countTreading : yX12_countTreading.cls ≠ "java/lang/invoke/MethodHandle" ∧ yX12_countTreading.cls ≠ "java/lang/invoke/VarHandle" ∧ (parseMethodDescriptor yX12_countTreading.desc).map (fun d => d.parameters.length) = some 3 := by decide +kernel
theorem fy_X12_countWays : yX12_countWays.cls ≠ "java/lang/invoke/MethodHandle" ∧ yX12_countWays.cls ≠ "java/lang/invoke/VarHandle" ∧ (parseMethodDescriptor yX12_countWays.desc).map (fun d => d.parameters.length) = some 2 := by decide +kernel
theorem fy_X12_divide : yX12_divide.cls ≠ "java/lang/invoke/MethodHandle" ∧ yX12_divide.cls ≠ "java/lang/invoke/VarHandle" ∧ (parseMethodDescriptor yX12_divide.desc).map (fun d => d.parameters.length) = some 2 := by decide +kernel
theorem fy_X12_earn : yX12_earn.cls ≠ "java/lang/invoke/MethodHandle" ∧ yX12_earn.cls ≠ "java/lang/invoke/VarHandle" ∧ (parseMethodDescriptor yX12_earn.desc).map (fun d => d.parameters.length) = some 3 := by decide +kernel
theorem fy_X12_effortOf : yX12_effortOf.cls ≠ "java/lang/invoke/MethodHandle" ∧ yX12_effortOf.cls ≠ "java/lang/invoke/VarHandle" ∧ (parseMethodDescriptor yX12_effortOf.desc).map (fun d => d.parameters.length) = some 3 := by decide +kernel
theorem fy_X12_fault : yX12_fault.cls ≠ "java/lang/invoke/MethodHandle" ∧ yX12_fault.cls ≠ "java/lang/invoke/VarHandle" ∧ (parseMethodDescriptor yX12_fault.desc).map (fun d => d.parameters.length) = some 1 := by decide +kernel
theorem fy_X12_findAll : yX12_findAll.cls ≠ "java/lang/invoke/MethodHandle" ∧ yX12_findAll.cls ≠ "java/lang/invoke/VarHandle" ∧ (parseMethodDescriptor yX12_findAll.desc).map (fun d => d.parameters.length) = some 0 := by decide +kernel
theorem fy_X12_findBest : yX12_findBest.cls ≠ "java/lang/invoke/MethodHandle" ∧ yX12_findBest.cls ≠ "java/lang/invoke/VarHandle" ∧ (parseMethodDescriptor yX12_findBest.desc).map (fun d => d.parameters.length) = some 1 := by decide +kernel
theorem fy_X12_findByCost : yX12_findByCost.cls ≠ "java/lang/invoke/MethodHandle" ∧ yX12_findByCost.cls ≠ "java/lang/invoke/VarHandle" ∧ (parseMethodDescriptor yX12_findByCost.desc).map (fun d => d.parameters.length) = some 1 := by decide +kernel
theorem fy_X12_findByEffort : yX12_findByEffort.cls ≠ "java/lang/invoke/MethodHandle" ∧ yX12_findByEffort.cls ≠ "java/lang/invoke/VarHandle" ∧ (parseMethodDescriptor yX12_findByEffort.desc).map (fun d => d.parameters.length) = some 1 := by decide +kernel
theorem fy_X12_findClimb : yX12_findClimb.cls ≠ "java/lang/invoke/MethodHandle" ∧ yX12_findClimb.cls ≠ "java/lang/invoke/VarHandle" ∧ (parseMethodDescriptor yX12_findClimb.desc).map (fun d => d.parameters.length) = some 1 := by decide +kernel
theorem fy_X12_fine : yX12_fine.cls ≠ "java/lang/invoke/MethodHandle" ∧ yX12_fine.cls ≠ "java/lang/invoke/VarHandle" ∧ (parseMethodDescriptor yX12_fine.desc).map (fun d => d.parameters.length) = some 0 := by decide +kernel
theorem fy_X12_has : yX12_has.cls ≠ "java/lang/invoke/MethodHandle" ∧ yX12_has.cls ≠ "java/lang/invoke/VarHandle" ∧ (parseMethodDescriptor yX12_has.desc).map (fun d => d.parameters.length) = some 2 := by decide +kernel
theorem fy_X12_held : yX12_held.cls ≠ "java/lang/invoke/MethodHandle" ∧ yX12_held.cls ≠ "java/lang/invoke/VarHandle" ∧ (parseMethodDescriptor yX12_held.desc).map (fun d => d.parameters.length) = some 1 := by decide +kernel
theorem fy_X12_here : yX12_here.cls ≠ "java/lang/invoke/MethodHandle" ∧ yX12_here.cls ≠ "java/lang/invoke/VarHandle" ∧ (parseMethodDescriptor yX12_here.desc).map (fun d => d.parameters.length) = some 0 := by decide +kernel
theorem fy_X12_in : yX12_in.cls ≠ "java/lang/invoke/MethodHandle" ∧ yX12_in.cls ≠ "java/lang/invoke/VarHandle" ∧ (parseMethodDescriptor yX12_in.desc).map (fun d => d.parameters.length) = some 3 := by decide +kernel
theorem fy_X12_isCost : yX12_isCost.cls ≠ "java/lang/invoke/MethodHandle" ∧ yX12_isCost.cls ≠ "java/lang/invoke/VarHandle" ∧ (parseMethodDescriptor yX12_isCost.desc).map (fun d => d.parameters.length) = some 1 := by decide +kernel
theorem fy_X12_isFamily : yX12_isFamily.cls ≠ "java/lang/invoke/MethodHandle" ∧ yX12_isFamily.cls ≠ "java/lang/invoke/VarHandle" ∧ (parseMethodDescriptor yX12_isFamily.desc).map (fun d => d.parameters.length) = some 1 := by decide +kernel
theorem fy_X12_isMove : yX12_isMove.cls ≠ "java/lang/invoke/MethodHandle" ∧ yX12_isMove.cls ≠ "java/lang/invoke/VarHandle" ∧ (parseMethodDescriptor yX12_isMove.desc).map (fun d => d.parameters.length) = some 3 := by decide +kernel
theorem fy_X12_isOn : yX12_isOn.cls ≠ "java/lang/invoke/MethodHandle" ∧ yX12_isOn.cls ≠ "java/lang/invoke/VarHandle" ∧ (parseMethodDescriptor yX12_isOn.desc).map (fun d => d.parameters.length) = some 3 := by decide +kernel
theorem fy_X12_isOne : yX12_isOne.cls ≠ "java/lang/invoke/MethodHandle" ∧ yX12_isOne.cls ≠ "java/lang/invoke/VarHandle" ∧ (parseMethodDescriptor yX12_isOne.desc).map (fun d => d.parameters.length) = some 1 := by decide +kernel
theorem fy_X12_isStep : yX12_isStep.cls ≠ "java/lang/invoke/MethodHandle" ∧ yX12_isStep.cls ≠ "java/lang/invoke/VarHandle" ∧ (parseMethodDescriptor yX12_isStep.desc).map (fun d => d.parameters.length) = some 1 := by decide +kernel
theorem fy_X12_lawOf : yX12_lawOf.cls ≠ "java/lang/invoke/MethodHandle" ∧ yX12_lawOf.cls ≠ "java/lang/invoke/VarHandle" ∧ (parseMethodDescriptor yX12_lawOf.desc).map (fun d => d.parameters.length) = some 5 := by decide +kernel
theorem fy_X12_layMoves : yX12_layMoves.cls ≠ "java/lang/invoke/MethodHandle" ∧ yX12_layMoves.cls ≠ "java/lang/invoke/VarHandle" ∧ (parseMethodDescriptor yX12_layMoves.desc).map (fun d => d.parameters.length) = some 1 := by decide +kernel
theorem fy_X12_letter : yX12_letter.cls ≠ "java/lang/invoke/MethodHandle" ∧ yX12_letter.cls ≠ "java/lang/invoke/VarHandle" ∧ (parseMethodDescriptor yX12_letter.desc).map (fun d => d.parameters.length) = some 1 := by decide +kernel
theorem fy_X12_lost : yX12_lost.cls ≠ "java/lang/invoke/MethodHandle" ∧ yX12_lost.cls ≠ "java/lang/invoke/VarHandle" ∧ (parseMethodDescriptor yX12_lost.desc).map (fun d => d.parameters.length) = some 0 := by decide +kernel
theorem fy_X12_mainOf : yX12_mainOf.cls ≠ "java/lang/invoke/MethodHandle" ∧ yX12_mainOf.cls ≠ "java/lang/invoke/VarHandle" ∧ (parseMethodDescriptor yX12_mainOf.desc).map (fun d => d.parameters.length) = some 1 := by decide +kernel
theorem fy_X12_need : yX12_need.cls ≠ "java/lang/invoke/MethodHandle" ∧ yX12_need.cls ≠ "java/lang/invoke/VarHandle" ∧ (parseMethodDescriptor yX12_need.desc).map (fun d => d.parameters.length) = some 1 := by decide +kernel
theorem fy_X12_number : yX12_number.cls ≠ "java/lang/invoke/MethodHandle" ∧ yX12_number.cls ≠ "java/lang/invoke/VarHandle" ∧ (parseMethodDescriptor yX12_number.desc).map (fun d => d.parameters.length) = some 3 := by decide +kernel
theorem fy_X12_onStep : yX12_onStep.cls ≠ "java/lang/invoke/MethodHandle" ∧ yX12_onStep.cls ≠ "java/lang/invoke/VarHandle" ∧ (parseMethodDescriptor yX12_onStep.desc).map (fun d => d.parameters.length) = some 1 := by decide +kernel
theorem fy_X12_paidTo : yX12_paidTo.cls ≠ "java/lang/invoke/MethodHandle" ∧ yX12_paidTo.cls ≠ "java/lang/invoke/VarHandle" ∧ (parseMethodDescriptor yX12_paidTo.desc).map (fun d => d.parameters.length) = some 2 := by decide +kernel
theorem fy_X12_passes : yX12_passes.cls ≠ "java/lang/invoke/MethodHandle" ∧ yX12_passes.cls ≠ "java/lang/invoke/VarHandle" ∧ (parseMethodDescriptor yX12_passes.desc).map (fun d => d.parameters.length) = some 1 := by decide +kernel
theorem fy_X12_placeOf : yX12_placeOf.cls ≠ "java/lang/invoke/MethodHandle" ∧ yX12_placeOf.cls ≠ "java/lang/invoke/VarHandle" ∧ (parseMethodDescriptor yX12_placeOf.desc).map (fun d => d.parameters.length) = some 1 := by decide +kernel
theorem fy_X12_product : yX12_product.cls ≠ "java/lang/invoke/MethodHandle" ∧ yX12_product.cls ≠ "java/lang/invoke/VarHandle" ∧ (parseMethodDescriptor yX12_product.desc).map (fun d => d.parameters.length) = some 1 := by decide +kernel
theorem fy_X12_put : yX12_put.cls ≠ "java/lang/invoke/MethodHandle" ∧ yX12_put.cls ≠ "java/lang/invoke/VarHandle" ∧ (parseMethodDescriptor yX12_put.desc).map (fun d => d.parameters.length) = some 1 := by decide +kernel
theorem fy_X12_readLine : yX12_readLine.cls ≠ "java/lang/invoke/MethodHandle" ∧ yX12_readLine.cls ≠ "java/lang/invoke/VarHandle" ∧ (parseMethodDescriptor yX12_readLine.desc).map (fun d => d.parameters.length) = some 1 := by decide +kernel
theorem fy_X12_rememberParts : yX12_rememberParts.cls ≠ "java/lang/invoke/MethodHandle" ∧ yX12_rememberParts.cls ≠ "java/lang/invoke/VarHandle" ∧ (parseMethodDescriptor yX12_rememberParts.desc).map (fun d => d.parameters.length) = some 0 := by decide +kernel
theorem fy_X12_runFeast : yX12_runFeast.cls ≠ "java/lang/invoke/MethodHandle" ∧ yX12_runFeast.cls ≠ "java/lang/invoke/VarHandle" ∧ (parseMethodDescriptor yX12_runFeast.desc).map (fun d => d.parameters.length) = some 1 := by decide +kernel
theorem fy_X12_setFeud : yX12_setFeud.cls ≠ "java/lang/invoke/MethodHandle" ∧ yX12_setFeud.cls ≠ "java/lang/invoke/VarHandle" ∧ (parseMethodDescriptor yX12_setFeud.desc).map (fun d => d.parameters.length) = some 3 := by decide +kernel
theorem fy_X12_sum : yX12_sum.cls ≠ "java/lang/invoke/MethodHandle" ∧ yX12_sum.cls ≠ "java/lang/invoke/VarHandle" ∧ (parseMethodDescriptor yX12_sum.desc).map (fun d => d.parameters.length) = some 1 := by decide +kernel
theorem fy_X12_take : yX12_take.cls ≠ "java/lang/invoke/MethodHandle" ∧ yX12_take.cls ≠ "java/lang/invoke/VarHandle" ∧ (parseMethodDescriptor yX12_take.desc).map (fun d => d.parameters.length) = some 0 := by decide +kernel
theorem fy_X12_tell : yX12_tell.cls ≠ "java/lang/invoke/MethodHandle" ∧ yX12_tell.cls ≠ "java/lang/invoke/VarHandle" ∧ (parseMethodDescriptor yX12_tell.desc).map (fun d => d.parameters.length) = some 1 := by decide +kernel
theorem fy_X12_tellMore : yX12_tellMore.cls ≠ "java/lang/invoke/MethodHandle" ∧ yX12_tellMore.cls ≠ "java/lang/invoke/VarHandle" ∧ (parseMethodDescriptor yX12_tellMore.desc).map (fun d => d.parameters.length) = some 3 := by decide +kernel
theorem fy_X12_tellPart : yX12_tellPart.cls ≠ "java/lang/invoke/MethodHandle" ∧ yX12_tellPart.cls ≠ "java/lang/invoke/VarHandle" ∧ (parseMethodDescriptor yX12_tellPart.desc).map (fun d => d.parameters.length) = some 2 := by decide +kernel
theorem fy_X12_thing : yX12_thing.cls ≠ "java/lang/invoke/MethodHandle" ∧ yX12_thing.cls ≠ "java/lang/invoke/VarHandle" ∧ (parseMethodDescriptor yX12_thing.desc).map (fun d => d.parameters.length) = some 1 := by decide +kernel
theorem fy_X1_goOn : yX1_goOn.cls ≠ "java/lang/invoke/MethodHandle" ∧ yX1_goOn.cls ≠ "java/lang/invoke/VarHandle" ∧ (parseMethodDescriptor yX1_goOn.desc).map (fun d => d.parameters.length) = some 2 := by decide +kernel
theorem fy_X1_init : yX1_init.cls ≠ "java/lang/invoke/MethodHandle" ∧ yX1_init.cls ≠ "java/lang/invoke/VarHandle" ∧ (parseMethodDescriptor yX1_init.desc).map (fun d => d.parameters.length) = some 0 := by decide +kernel
theorem fy_X1_invite : yX1_invite.cls ≠ "java/lang/invoke/MethodHandle" ∧ yX1_invite.cls ≠ "java/lang/invoke/VarHandle" ∧ (parseMethodDescriptor yX1_invite.desc).map (fun d => d.parameters.length) = some 2 := by decide +kernel
theorem fy_X1_longestWaiting : yX1_longestWaiting.cls ≠ "java/lang/invoke/MethodHandle" ∧ yX1_longestWaiting.cls ≠ "java/lang/invoke/VarHandle" ∧ (parseMethodDescriptor yX1_longestWaiting.desc).map (fun d => d.parameters.length) = some 0 := by decide +kernel
theorem fy_X1_passMinute : yX1_passMinute.cls ≠ "java/lang/invoke/MethodHandle" ∧ yX1_passMinute.cls ≠ "java/lang/invoke/VarHandle" ∧ (parseMethodDescriptor yX1_passMinute.desc).map (fun d => d.parameters.length) = some 1 := by decide +kernel
theorem fy_X1_prepare : yX1_prepare.cls ≠ "java/lang/invoke/MethodHandle" ∧ yX1_prepare.cls ≠ "java/lang/invoke/VarHandle" ∧ (parseMethodDescriptor yX1_prepare.desc).map (fun d => d.parameters.length) = some 1 := by decide +kernel
theorem fy_X1_run : yX1_run.cls ≠ "java/lang/invoke/MethodHandle" ∧ yX1_run.cls ≠ "java/lang/invoke/VarHandle" ∧ (parseMethodDescriptor yX1_run.desc).map (fun d => d.parameters.length) = some 1 := by decide +kernel
theorem fy_X2_getPilgrim : yX2_getPilgrim.cls ≠ "java/lang/invoke/MethodHandle" ∧ yX2_getPilgrim.cls ≠ "java/lang/invoke/VarHandle" ∧ (parseMethodDescriptor yX2_getPilgrim.desc).map (fun d => d.parameters.length) = some 2 := by decide +kernel
theorem fy_X2_getStairs : yX2_getStairs.cls ≠ "java/lang/invoke/MethodHandle" ∧ yX2_getStairs.cls ≠ "java/lang/invoke/VarHandle" ∧ (parseMethodDescriptor yX2_getStairs.desc).map (fun d => d.parameters.length) = some 1 := by decide +kernel
theorem fy_X2_init : yX2_init.cls ≠ "java/lang/invoke/MethodHandle" ∧ yX2_init.cls ≠ "java/lang/invoke/VarHandle" ∧ (parseMethodDescriptor yX2_init.desc).map (fun d => d.parameters.length) = some 0 := by decide +kernel
theorem fy_X2_putPilgrim : yX2_putPilgrim.cls ≠ "java/lang/invoke/MethodHandle" ∧ yX2_putPilgrim.cls ≠ "java/lang/invoke/VarHandle" ∧ (parseMethodDescriptor yX2_putPilgrim.desc).map (fun d => d.parameters.length) = some 2 := by decide +kernel
theorem fy_X2_putStairs : yX2_putStairs.cls ≠ "java/lang/invoke/MethodHandle" ∧ yX2_putStairs.cls ≠ "java/lang/invoke/VarHandle" ∧ (parseMethodDescriptor yX2_putStairs.desc).map (fun d => d.parameters.length) = some 1 := by decide +kernel
theorem fy_X3_emit : yX3_emit.cls ≠ "java/lang/invoke/MethodHandle" ∧ yX3_emit.cls ≠ "java/lang/invoke/VarHandle" ∧ (parseMethodDescriptor yX3_emit.desc).map (fun d => d.parameters.length) = some 1 := by decide +kernel
theorem fy_X3_init : yX3_init.cls ≠ "java/lang/invoke/MethodHandle" ∧ yX3_init.cls ≠ "java/lang/invoke/VarHandle" ∧ (parseMethodDescriptor yX3_init.desc).map (fun d => d.parameters.length) = some 0 := by decide +kernel
theorem fy_X3_isAhead : yX3_isAhead.cls ≠ "java/lang/invoke/MethodHandle" ∧ yX3_isAhead.cls ≠ "java/lang/invoke/VarHandle" ∧ (parseMethodDescriptor yX3_isAhead.desc).map (fun d => d.parameters.length) = some 3 := by decide +kernel
theorem fy_X3_isTold : yX3_isTold.cls ≠ "java/lang/invoke/MethodHandle" ∧ yX3_isTold.cls ≠ "java/lang/invoke/VarHandle" ∧ (parseMethodDescriptor yX3_isTold.desc).map (fun d => d.parameters.length) = some 0 := by decide +kernel
theorem fy_X3_join : yX3_join.cls ≠ "java/lang/invoke/MethodHandle" ∧ yX3_join.cls ≠ "java/lang/invoke/VarHandle" ∧ (parseMethodDescriptor yX3_join.desc).map (fun d => d.parameters.length) = some 3 := by decide +kernel
theorem fy_X3_look : yX3_look.cls ≠ "java/lang/invoke/MethodHandle" ∧ yX3_look.cls ≠ "java/lang/invoke/VarHandle" ∧ (parseMethodDescriptor yX3_look.desc).map (fun d => d.parameters.length) = some 1 := by decide +kernel
theorem fy_X3_names : yX3_names.cls ≠ "java/lang/invoke/MethodHandle" ∧ yX3_names.cls ≠ "java/lang/invoke/VarHandle" ∧ (parseMethodDescriptor yX3_names.desc).map (fun d => d.parameters.length) = some 1 := by decide +kernel
theorem fy_X3_priceFor : yX3_priceFor.cls ≠ "java/lang/invoke/MethodHandle" ∧ yX3_priceFor.cls ≠ "java/lang/invoke/VarHandle" ∧ (parseMethodDescriptor yX3_priceFor.desc).map (fun d => d.parameters.length) = some 1 := by decide +kernel
theorem fy_X3_read : yX3_read.cls ≠ "java/lang/invoke/MethodHandle" ∧ yX3_read.cls ≠ "java/lang/invoke/VarHandle" ∧ (parseMethodDescriptor yX3_read.desc).map (fun d => d.parameters.length) = some 1 := by decide +kernel
theorem fy_X4_deal : yX4_deal.cls ≠ "java/lang/invoke/MethodHandle" ∧ yX4_deal.cls ≠ "java/lang/invoke/VarHandle" ∧ (parseMethodDescriptor yX4_deal.desc).map (fun d => d.parameters.length) = some 2 := by decide +kernel
theorem fy_X4_findMain : yX4_findMain.cls ≠ "java/lang/invoke/MethodHandle" ∧ yX4_findMain.cls ≠ "java/lang/invoke/VarHandle" ∧ (parseMethodDescriptor yX4_findMain.desc).map (fun d => d.parameters.length) = some 1 := by decide +kernel
theorem fy_X4_findMains : yX4_findMains.cls ≠ "java/lang/invoke/MethodHandle" ∧ yX4_findMains.cls ≠ "java/lang/invoke/VarHandle" ∧ (parseMethodDescriptor yX4_findMains.desc).map (fun d => d.parameters.length) = some 0 := by decide +kernel
theorem fy_X4_inherit : yX4_inherit.cls ≠ "java/lang/invoke/MethodHandle" ∧ yX4_inherit.cls ≠ "java/lang/invoke/VarHandle" ∧ (parseMethodDescriptor yX4_inherit.desc).map (fun d => d.parameters.length) = some 3 := by decide +kernel
theorem fy_X4_init : yX4_init.cls ≠ "java/lang/invoke/MethodHandle" ∧ yX4_init.cls ≠ "java/lang/invoke/VarHandle" ∧ (parseMethodDescriptor yX4_init.desc).map (fun d => d.parameters.length) = some 0 := by decide +kernel
theorem fy_X4_mainOf : yX4_mainOf.cls ≠ "java/lang/invoke/MethodHandle" ∧ yX4_mainOf.cls ≠ "java/lang/invoke/VarHandle" ∧ (parseMethodDescriptor yX4_mainOf.desc).map (fun d => d.parameters.length) = some 1 := by decide +kernel
theorem fy_X4_mainsInto : yX4_mainsInto.cls ≠ "java/lang/invoke/MethodHandle" ∧ yX4_mainsInto.cls ≠ "java/lang/invoke/VarHandle" ∧ (parseMethodDescriptor yX4_mainsInto.desc).map (fun d => d.parameters.length) = some 1 := by decide +kernel
theorem fy_X4_move : yX4_move.cls ≠ "java/lang/invoke/MethodHandle" ∧ yX4_move.cls ≠ "java/lang/invoke/VarHandle" ∧ (parseMethodDescriptor yX4_move.desc).map (fun d => d.parameters.length) = some 4 := by decide +kernel
theorem fy_X4_remember : yX4_remember.cls ≠ "java/lang/invoke/MethodHandle" ∧ yX4_remember.cls ≠ "java/lang/invoke/VarHandle" ∧ (parseMethodDescriptor yX4_remember.desc).map (fun d => d.parameters.length) = some 0 := by decide +kernel
theorem fy_X4_restore : yX4_restore.cls ≠ "java/lang/invoke/MethodHandle" ∧ yX4_restore.cls ≠ "java/lang/invoke/VarHandle" ∧ (parseMethodDescriptor yX4_restore.desc).map (fun d => d.parameters.length) = some 1 := by decide +kernel
theorem fy_X4_shareInto : yX4_shareInto.cls ≠ "java/lang/invoke/MethodHandle" ∧ yX4_shareInto.cls ≠ "java/lang/invoke/VarHandle" ∧ (parseMethodDescriptor yX4_shareInto.desc).map (fun d => d.parameters.length) = some 2 := by decide +kernel
theorem fy_X4_shareOf : yX4_shareOf.cls ≠ "java/lang/invoke/MethodHandle" ∧ yX4_shareOf.cls ≠ "java/lang/invoke/VarHandle" ∧ (parseMethodDescriptor yX4_shareOf.desc).map (fun d => d.parameters.length) = some 2 := by decide +kernel
theorem fy_X4_sumInto : yX4_sumInto.cls ≠ "java/lang/invoke/MethodHandle" ∧ yX4_sumInto.cls ≠ "java/lang/invoke/VarHandle" ∧ (parseMethodDescriptor yX4_sumInto.desc).map (fun d => d.parameters.length) = some 1 := by decide +kernel
theorem fy_X4_sumOf : yX4_sumOf.cls ≠ "java/lang/invoke/MethodHandle" ∧ yX4_sumOf.cls ≠ "java/lang/invoke/VarHandle" ∧ (parseMethodDescriptor yX4_sumOf.desc).map (fun d => d.parameters.length) = some 1 := by decide +kernel
theorem fy_X4_takeBack : yX4_takeBack.cls ≠ "java/lang/invoke/MethodHandle" ∧ yX4_takeBack.cls ≠ "java/lang/invoke/VarHandle" ∧ (parseMethodDescriptor yX4_takeBack.desc).map (fun d => d.parameters.length) = some 0 := by decide +kernel
theorem fy_X5_comesTo : yX5_comesTo.cls ≠ "java/lang/invoke/MethodHandle" ∧ yX5_comesTo.cls ≠ "java/lang/invoke/VarHandle" ∧ (parseMethodDescriptor yX5_comesTo.desc).map (fun d => d.parameters.length) = some 1 := by decide +kernel
theorem fy_X5_init : yX5_init.cls ≠ "java/lang/invoke/MethodHandle" ∧ yX5_init.cls ≠ "java/lang/invoke/VarHandle" ∧ (parseMethodDescriptor yX5_init.desc).map (fun d => d.parameters.length) = some 5 := by decide +kernel
theorem fy_X5_startAnew : yX5_startAnew.cls ≠ "java/lang/invoke/MethodHandle" ∧ yX5_startAnew.cls ≠ "java/lang/invoke/VarHandle" ∧ (parseMethodDescriptor yX5_startAnew.desc).map (fun d => d.parameters.length) = some 0 := by decide +kernel
theorem fy_X5_vowsAgainst : yX5_vowsAgainst.cls ≠ "java/lang/invoke/MethodHandle" ∧ yX5_vowsAgainst.cls ≠ "java/lang/invoke/VarHandle" ∧ (parseMethodDescriptor yX5_vowsAgainst.desc).map (fun d => d.parameters.length) = some 1 := by decide +kernel
theorem fy_X6_addOffers : yX6_addOffers.cls ≠ "java/lang/invoke/MethodHandle" ∧ yX6_addOffers.cls ≠ "java/lang/invoke/VarHandle" ∧ (parseMethodDescriptor yX6_addOffers.desc).map (fun d => d.parameters.length) = some 3 := by decide +kernel
theorem fy_X6_cheapest : yX6_cheapest.cls ≠ "java/lang/invoke/MethodHandle" ∧ yX6_cheapest.cls ≠ "java/lang/invoke/VarHandle" ∧ (parseMethodDescriptor yX6_cheapest.desc).map (fun d => d.parameters.length) = some 0 := by decide +kernel
theorem fy_X6_feed : yX6_feed.cls ≠ "java/lang/invoke/MethodHandle" ∧ yX6_feed.cls ≠ "java/lang/invoke/VarHandle" ∧ (parseMethodDescriptor yX6_feed.desc).map (fun d => d.parameters.length) = some 4 := by decide +kernel
theorem fy_X6_init : yX6_init.cls ≠ "java/lang/invoke/MethodHandle" ∧ yX6_init.cls ≠ "java/lang/invoke/VarHandle" ∧ (parseMethodDescriptor yX6_init.desc).map (fun d => d.parameters.length) = some 4 := by decide +kernel
theorem fy_X6_keyOf : yX6_keyOf.cls ≠ "java/lang/invoke/MethodHandle" ∧ yX6_keyOf.cls ≠ "java/lang/invoke/VarHandle" ∧ (parseMethodDescriptor yX6_keyOf.desc).map (fun d => d.parameters.length) = some 2 := by decide +kernel
theorem fy_X6_lay : yX6_lay.cls ≠ "java/lang/invoke/MethodHandle" ∧ yX6_lay.cls ≠ "java/lang/invoke/VarHandle" ∧ (parseMethodDescriptor yX6_lay.desc).map (fun d => d.parameters.length) = some 3 := by decide +kernel
theorem fy_X6_leastEffortFrom : yX6_leastEffortFrom.cls ≠ "java/lang/invoke/MethodHandle" ∧ yX6_leastEffortFrom.cls ≠ "java/lang/invoke/VarHandle" ∧ (parseMethodDescriptor yX6_leastEffortFrom.desc).map (fun d => d.parameters.length) = some 1 := by decide +kernel
theorem fy_X6_leastEffortUp : yX6_leastEffortUp.cls ≠ "java/lang/invoke/MethodHandle" ∧ yX6_leastEffortUp.cls ≠ "java/lang/invoke/VarHandle" ∧ (parseMethodDescriptor yX6_leastEffortUp.desc).map (fun d => d.parameters.length) = some 1 := by decide +kernel
theorem fy_X6_lower : yX6_lower.cls ≠ "java/lang/invoke/MethodHandle" ∧ yX6_lower.cls ≠ "java/lang/invoke/VarHandle" ∧ (parseMethodDescriptor yX6_lower.desc).map (fun d => d.parameters.length) = some 1 := by decide +kernel
theorem fy_X6_measure : yX6_measure.cls ≠ "java/lang/invoke/MethodHandle" ∧ yX6_measure.cls ≠ "java/lang/invoke/VarHandle" ∧ (parseMethodDescriptor yX6_measure.desc).map (fun d => d.parameters.length) = some 2 := by decide +kernel
theorem fy_X6_moveTo : yX6_moveTo.cls ≠ "java/lang/invoke/MethodHandle" ∧ yX6_moveTo.cls ≠ "java/lang/invoke/VarHandle" ∧ (parseMethodDescriptor yX6_moveTo.desc).map (fun d => d.parameters.length) = some 2 := by decide +kernel
theorem fy_X6_offerBy : yX6_offerBy.cls ≠ "java/lang/invoke/MethodHandle" ∧ yX6_offerBy.cls ≠ "java/lang/invoke/VarHandle" ∧ (parseMethodDescriptor yX6_offerBy.desc).map (fun d => d.parameters.length) = some 3 := by decide +kernel
theorem fy_X6_raiseOne : yX6_raiseOne.cls ≠ "java/lang/invoke/MethodHandle" ∧ yX6_raiseOne.cls ≠ "java/lang/invoke/VarHandle" ∧ (parseMethodDescriptor yX6_raiseOne.desc).map (fun d => d.parameters.length) = some 1 := by decide +kernel
theorem fy_X6_raiseTo : yX6_raiseTo.cls ≠ "java/lang/invoke/MethodHandle" ∧ yX6_raiseTo.cls ≠ "java/lang/invoke/VarHandle" ∧ (parseMethodDescriptor yX6_raiseTo.desc).map (fun d => d.parameters.length) = some 1 := by decide +kernel
theorem fy_X6_survey : yX6_survey.cls ≠ "java/lang/invoke/MethodHandle" ∧ yX6_survey.cls ≠ "java/lang/invoke/VarHandle" ∧ (parseMethodDescriptor yX6_survey.desc).map (fun d => d.parameters.length) = some 0 := by decide +kernel
theorem fy_X7_begin : yX7_begin.cls ≠ "java/lang/invoke/MethodHandle" ∧ yX7_begin.cls ≠ "java/lang/invoke/VarHandle" ∧ (parseMethodDescriptor yX7_begin.desc).map (fun d => d.parameters.length) = some 2 := by decide +kernel
theorem fy_X7_init : yX7_init.cls ≠ "java/lang/invoke/MethodHandle" ∧ yX7_init.cls ≠ "java/lang/invoke/VarHandle" ∧ (parseMethodDescriptor yX7_init.desc).map (fun d => d.parameters.length) = some 0 := by decide +kernel
theorem fy_X7_keepCheapest : yX7_keepCheapest.cls ≠ "java/lang/invoke/MethodHandle" ∧ yX7_keepCheapest.cls ≠ "java/lang/invoke/VarHandle" ∧ (parseMethodDescriptor yX7_keepCheapest.desc).map (fun d => d.parameters.length) = some 3 := by decide +kernel
theorem fy_X7_keepEachCost : yX7_keepEachCost.cls ≠ "java/lang/invoke/MethodHandle" ∧ yX7_keepEachCost.cls ≠ "java/lang/invoke/VarHandle" ∧ (parseMethodDescriptor yX7_keepEachCost.desc).map (fun d => d.parameters.length) = some 3 := by decide +kernel
theorem fy_X7_keyAt : yX7_keyAt.cls ≠ "java/lang/invoke/MethodHandle" ∧ yX7_keyAt.cls ≠ "java/lang/invoke/VarHandle" ∧ (parseMethodDescriptor yX7_keyAt.desc).map (fun d => d.parameters.length) = some 2 := by decide +kernel
theorem fy_X7_leastJoined : yX7_leastJoined.cls ≠ "java/lang/invoke/MethodHandle" ∧ yX7_leastJoined.cls ≠ "java/lang/invoke/VarHandle" ∧ (parseMethodDescriptor yX7_leastJoined.desc).map (fun d => d.parameters.length) = some 4 := by decide +kernel
theorem fy_X7_merge : yX7_merge.cls ≠ "java/lang/invoke/MethodHandle" ∧ yX7_merge.cls ≠ "java/lang/invoke/VarHandle" ∧ (parseMethodDescriptor yX7_merge.desc).map (fun d => d.parameters.length) = some 2 := by decide +kernel
theorem fy_X7_push : yX7_push.cls ≠ "java/lang/invoke/MethodHandle" ∧ yX7_push.cls ≠ "java/lang/invoke/VarHandle" ∧ (parseMethodDescriptor yX7_push.desc).map (fun d => d.parameters.length) = some 2 := by decide +kernel
theorem fy_X7_pushSummed : yX7_pushSummed.cls ≠ "java/lang/invoke/MethodHandle" ∧ yX7_pushSummed.cls ≠ "java/lang/invoke/VarHandle" ∧ (parseMethodDescriptor yX7_pushSummed.desc).map (fun d => d.parameters.length) = some 2 := by decide +kernel
theorem fy_X7_sizeAt : yX7_sizeAt.cls ≠ "java/lang/invoke/MethodHandle" ∧ yX7_sizeAt.cls ≠ "java/lang/invoke/VarHandle" ∧ (parseMethodDescriptor yX7_sizeAt.desc).map (fun d => d.parameters.length) = some 1 := by decide +kernel
theorem fy_X7_start : yX7_start.cls ≠ "java/lang/invoke/MethodHandle" ∧ yX7_start.cls ≠ "java/lang/invoke/VarHandle" ∧ (parseMethodDescriptor yX7_start.desc).map (fun d => d.parameters.length) = some 1 := by decide +kernel
theorem fy_X7_take : yX7_take.cls ≠ "java/lang/invoke/MethodHandle" ∧ yX7_take.cls ≠ "java/lang/invoke/VarHandle" ∧ (parseMethodDescriptor yX7_take.desc).map (fun d => d.parameters.length) = some 0 := by decide +kernel
theorem fy_X8_build : yX8_build.cls ≠ "java/lang/invoke/MethodHandle" ∧ yX8_build.cls ≠ "java/lang/invoke/VarHandle" ∧ (parseMethodDescriptor yX8_build.desc).map (fun d => d.parameters.length) = some 1 := by decide +kernel
theorem fy_X8_costOfMove : yX8_costOfMove.cls ≠ "java/lang/invoke/MethodHandle" ∧ yX8_costOfMove.cls ≠ "java/lang/invoke/VarHandle" ∧ (parseMethodDescriptor yX8_costOfMove.desc).map (fun d => d.parameters.length) = some 3 := by decide +kernel
theorem fy_X8_effortOfMove : yX8_effortOfMove.cls ≠ "java/lang/invoke/MethodHandle" ∧ yX8_effortOfMove.cls ≠ "java/lang/invoke/VarHandle" ∧ (parseMethodDescriptor yX8_effortOfMove.desc).map (fun d => d.parameters.length) = some 3 := by decide +kernel
theorem fy_X8_has : yX8_has.cls ≠ "java/lang/invoke/MethodHandle" ∧ yX8_has.cls ≠ "java/lang/invoke/VarHandle" ∧ (parseMethodDescriptor yX8_has.desc).map (fun d => d.parameters.length) = some 1 := by decide +kernel
theorem fy_X8_inFeud : yX8_inFeud.cls ≠ "java/lang/invoke/MethodHandle" ∧ yX8_inFeud.cls ≠ "java/lang/invoke/VarHandle" ∧ (parseMethodDescriptor yX8_inFeud.desc).map (fun d => d.parameters.length) = some 2 := by decide +kernel
theorem fy_X8_init : yX8_init.cls ≠ "java/lang/invoke/MethodHandle" ∧ yX8_init.cls ≠ "java/lang/invoke/VarHandle" ∧ (parseMethodDescriptor yX8_init.desc).map (fun d => d.parameters.length) = some 0 := by decide +kernel
theorem fy_X8_mindsFeud : yX8_mindsFeud.cls ≠ "java/lang/invoke/MethodHandle" ∧ yX8_mindsFeud.cls ≠ "java/lang/invoke/VarHandle" ∧ (parseMethodDescriptor yX8_mindsFeud.desc).map (fun d => d.parameters.length) = some 2 := by decide +kernel
theorem fy_X8_priceOf : yX8_priceOf.cls ≠ "java/lang/invoke/MethodHandle" ∧ yX8_priceOf.cls ≠ "java/lang/invoke/VarHandle" ∧ (parseMethodDescriptor yX8_priceOf.desc).map (fun d => d.parameters.length) = some 5 := by decide +kernel
theorem fy_X8_pricesInto : yX8_pricesInto.cls ≠ "java/lang/invoke/MethodHandle" ∧ yX8_pricesInto.cls ≠ "java/lang/invoke/VarHandle" ∧ (parseMethodDescriptor yX8_pricesInto.desc).map (fun d => d.parameters.length) = some 6 := by decide +kernel
theorem fy_X8_putLetters : yX8_putLetters.cls ≠ "java/lang/invoke/MethodHandle" ∧ yX8_putLetters.cls ≠ "java/lang/invoke/VarHandle" ∧ (parseMethodDescriptor yX8_putLetters.desc).map (fun d => d.parameters.length) = some 4 := by decide +kernel
theorem fy_X8_quarrel : yX8_quarrel.cls ≠ "java/lang/invoke/MethodHandle" ∧ yX8_quarrel.cls ≠ "java/lang/invoke/VarHandle" ∧ (parseMethodDescriptor yX8_quarrel.desc).map (fun d => d.parameters.length) = some 3 := by decide +kernel
theorem fy_X8_sumOfAsks : yX8_sumOfAsks.cls ≠ "java/lang/invoke/MethodHandle" ∧ yX8_sumOfAsks.cls ≠ "java/lang/invoke/VarHandle" ∧ (parseMethodDescriptor yX8_sumOfAsks.desc).map (fun d => d.parameters.length) = some 0 := by decide +kernel
theorem fy_X8_sumOfFeuds : yX8_sumOfFeuds.cls ≠ "java/lang/invoke/MethodHandle" ∧ yX8_sumOfFeuds.cls ≠ "java/lang/invoke/VarHandle" ∧ (parseMethodDescriptor yX8_sumOfFeuds.desc).map (fun d => d.parameters.length) = some 0 := by decide +kernel
theorem fy_X9_fail : yX9_fail.cls ≠ "java/lang/invoke/MethodHandle" ∧ yX9_fail.cls ≠ "java/lang/invoke/VarHandle" ∧ (parseMethodDescriptor yX9_fail.desc).map (fun d => d.parameters.length) = some 1 := by decide +kernel
theorem fy_X9_init : yX9_init.cls ≠ "java/lang/invoke/MethodHandle" ∧ yX9_init.cls ≠ "java/lang/invoke/VarHandle" ∧ (parseMethodDescriptor yX9_init.desc).map (fun d => d.parameters.length) = some 0 := by decide +kernel
theorem fy_X9_look : yX9_look.cls ≠ "java/lang/invoke/MethodHandle" ∧ yX9_look.cls ≠ "java/lang/invoke/VarHandle" ∧ (parseMethodDescriptor yX9_look.desc).map (fun d => d.parameters.length) = some 1 := by decide +kernel
theorem fy_X9_put : yX9_put.cls ≠ "java/lang/invoke/MethodHandle" ∧ yX9_put.cls ≠ "java/lang/invoke/VarHandle" ∧ (parseMethodDescriptor yX9_put.desc).map (fun d => d.parameters.length) = some 5 := by decide +kernel
theorem fy_X9_read : yX9_read.cls ≠ "java/lang/invoke/MethodHandle" ∧ yX9_read.cls ≠ "java/lang/invoke/VarHandle" ∧ (parseMethodDescriptor yX9_read.desc).map (fun d => d.parameters.length) = some 1 := by decide +kernel
theorem fy_X9_readBreak : yX9_readBreak.cls ≠ "java/lang/invoke/MethodHandle" ∧ yX9_readBreak.cls ≠ "java/lang/invoke/VarHandle" ∧ (parseMethodDescriptor yX9_readBreak.desc).map (fun d => d.parameters.length) = some 1 := by decide +kernel
theorem fy_X9_readFamily : yX9_readFamily.cls ≠ "java/lang/invoke/MethodHandle" ∧ yX9_readFamily.cls ≠ "java/lang/invoke/VarHandle" ∧ (parseMethodDescriptor yX9_readFamily.desc).map (fun d => d.parameters.length) = some 1 := by decide +kernel
theorem fy_X9_readLine : yX9_readLine.cls ≠ "java/lang/invoke/MethodHandle" ∧ yX9_readLine.cls ≠ "java/lang/invoke/VarHandle" ∧ (parseMethodDescriptor yX9_readLine.desc).map (fun d => d.parameters.length) = some 1 := by decide +kernel
theorem fy_X9_readMark : yX9_readMark.cls ≠ "java/lang/invoke/MethodHandle" ∧ yX9_readMark.cls ≠ "java/lang/invoke/VarHandle" ∧ (parseMethodDescriptor yX9_readMark.desc).map (fun d => d.parameters.length) = some 2 := by decide +kernel
theorem fy_X9_readNumber : yX9_readNumber.cls ≠ "java/lang/invoke/MethodHandle" ∧ yX9_readNumber.cls ≠ "java/lang/invoke/VarHandle" ∧ (parseMethodDescriptor yX9_readNumber.desc).map (fun d => d.parameters.length) = some 3 := by decide +kernel
theorem fy_X9_readTimes : yX9_readTimes.cls ≠ "java/lang/invoke/MethodHandle" ∧ yX9_readTimes.cls ≠ "java/lang/invoke/VarHandle" ∧ (parseMethodDescriptor yX9_readTimes.desc).map (fun d => d.parameters.length) = some 1 := by decide +kernel
theorem nw_0_2_X11_305 : Cond.fieldLinkNest RX11 305 "StairsInSteps$ByCost" "easiestWays" "J" "StairsInSteps" ∈ jnest := List.mem_of_getElem? (i := 29) rfl
theorem nw_1_3_X11_400 : Cond.fieldLinkNest RX11 400 "StairsInSteps$Feast" "waited" "[I" "StairsInSteps" ∈ jnest := List.mem_of_getElem? (i := 30) rfl
theorem nw_1_5_X11_409 : Cond.fieldLinkNest RX11 409 "StairsInSteps$Feast" "waitedFor" "[I" "StairsInSteps" ∈ jnest := List.mem_of_getElem? (i := 31) rfl
theorem nw_1_8_X11_406 : Cond.fieldLinkNest RX11 406 "StairsInSteps$Feast" "minutes" "I" "StairsInSteps" ∈ jnest := List.mem_of_getElem? (i := 32) rfl
theorem nw_1_9_X11_403 : Cond.fieldLinkNest RX11 403 "StairsInSteps$Feast" "crowd" "I" "StairsInSteps" ∈ jnest := List.mem_of_getElem? (i := 33) rfl
theorem nw_2_3_X11_416 : Cond.fieldLinkNest RX11 416 "StairsInSteps$Kept" "earnings" "[I" "StairsInSteps" ∈ jnest := List.mem_of_getElem? (i := 25) rfl
theorem nw_2_7_X11_419 : Cond.fieldLinkNest RX11 419 "StairsInSteps$Kept" "size" "I" "StairsInSteps" ∈ jnest := List.mem_of_getElem? (i := 26) rfl
theorem nw_2_8_X11_124 : Cond.fieldLinkNest RX11 124 "StairsInSteps$Kept" "holds" "Z" "StairsInSteps" ∈ jnest := List.mem_of_getElem? (i := 27) rfl
theorem nw_4_0_X2_59 : Cond.fieldLinkNest RX2 59 "StairsInSteps$Parts" "owned" "[I" "StairsInSteps" ∈ jnest := List.mem_of_getElem? (i := 9) rfl
theorem nw_4_4_X11_369 : Cond.fieldLinkNest RX11 369 "StairsInSteps$Parts" "sales" "I" "StairsInSteps" ∈ jnest := List.mem_of_getElem? (i := 10) rfl
theorem nw_5_0_X11_216 : Cond.fieldLinkNest RX11 216 "StairsInSteps$Pilgrim" "knees" "I" "StairsInSteps" ∈ jnest := List.mem_of_getElem? (i := 41) rfl
theorem nw_5_1_X11_219 : Cond.fieldLinkNest RX11 219 "StairsInSteps$Pilgrim" "purse" "I" "StairsInSteps" ∈ jnest := List.mem_of_getElem? (i := 42) rfl
theorem nw_5_2_X11_210 : Cond.fieldLinkNest RX11 210 "StairsInSteps$Pilgrim" "leap" "I" "StairsInSteps" ∈ jnest := List.mem_of_getElem? (i := 43) rfl
theorem nw_5_3_X11_213 : Cond.fieldLinkNest RX11 213 "StairsInSteps$Pilgrim" "load" "I" "StairsInSteps" ∈ jnest := List.mem_of_getElem? (i := 44) rfl
theorem nw_5_4_X11_196 : Cond.fieldLinkNest RX11 196 "StairsInSteps$Pilgrim" "vow" "I" "StairsInSteps" ∈ jnest := List.mem_of_getElem? (i := 45) rfl
theorem nw_5_5_X11_201 : Cond.fieldLinkNest RX11 201 "StairsInSteps$Pilgrim" "at" "I" "StairsInSteps" ∈ jnest := List.mem_of_getElem? (i := 47) rfl
theorem nw_5_5_X2_66 : Cond.fieldLinkNest RX2 66 "StairsInSteps$Pilgrim" "at" "I" "StairsInSteps" ∈ jnest := List.mem_of_getElem? (i := 46) rfl
theorem nw_5_6_X11_204 : Cond.fieldLinkNest RX11 204 "StairsInSteps$Pilgrim" "kneesLeft" "I" "StairsInSteps" ∈ jnest := List.mem_of_getElem? (i := 49) rfl
theorem nw_5_6_X2_70 : Cond.fieldLinkNest RX2 70 "StairsInSteps$Pilgrim" "kneesLeft" "I" "StairsInSteps" ∈ jnest := List.mem_of_getElem? (i := 48) rfl
theorem nw_5_7_X11_207 : Cond.fieldLinkNest RX11 207 "StairsInSteps$Pilgrim" "purseLeft" "I" "StairsInSteps" ∈ jnest := List.mem_of_getElem? (i := 51) rfl
theorem nw_5_7_X2_72 : Cond.fieldLinkNest RX2 72 "StairsInSteps$Pilgrim" "purseLeft" "I" "StairsInSteps" ∈ jnest := List.mem_of_getElem? (i := 50) rfl
theorem nw_5_8_X11_263 : Cond.fieldLinkNest RX11 263 "StairsInSteps$Pilgrim" "routes" "LStairsInSteps$Routes;" "StairsInSteps" ∈ jnest := List.mem_of_getElem? (i := 52) rfl
theorem nw_6_1_X0_65 : Cond.fieldLinkNest RX0 65 "StairsInSteps$Routes" "knees" "I" "StairsInSteps" ∈ jnest := List.mem_of_getElem? (i := 34) rfl
theorem nw_6_2_X0_48 : Cond.fieldLinkNest RX0 48 "StairsInSteps$Routes" "purse" "I" "StairsInSteps" ∈ jnest := List.mem_of_getElem? (i := 35) rfl
theorem nw_6_3_X0_109 : Cond.fieldLinkNest RX0 109 "StairsInSteps$Routes" "leap" "I" "StairsInSteps" ∈ jnest := List.mem_of_getElem? (i := 36) rfl
theorem nw_6_4_X0_116 : Cond.fieldLinkNest RX0 116 "StairsInSteps$Routes" "cost" "[I" "StairsInSteps" ∈ jnest := List.mem_of_getElem? (i := 37) rfl
theorem nw_6_6_X0_112 : Cond.fieldLinkNest RX0 112 "StairsInSteps$Routes" "open" "[Z" "StairsInSteps" ∈ jnest := List.mem_of_getElem? (i := 38) rfl
theorem nw_6_7_X0_44 : Cond.fieldLinkNest RX0 44 "StairsInSteps$Routes" "leastUp" "[I" "StairsInSteps" ∈ jnest := List.mem_of_getElem? (i := 39) rfl
theorem nw_6_15_X0_32 : Cond.fieldLinkNest RX0 32 "StairsInSteps$Routes" "top" "I" "StairsInSteps" ∈ jnest := List.mem_of_getElem? (i := 40) rfl
theorem nw_7_9_X0_86 : Cond.fieldLinkNest RX0 86 "StairsInSteps$Rows" "waiting" "I" "StairsInSteps" ∈ jnest := List.mem_of_getElem? (i := 28) rfl
theorem nw_8_0_X11_148 : Cond.fieldLinkNest RX11 148 "StairsInSteps$Stairs" "rise" "[I" "StairsInSteps" ∈ jnest := List.mem_of_getElem? (i := 11) rfl
theorem nw_8_1_X11_151 : Cond.fieldLinkNest RX11 151 "StairsInSteps$Stairs" "state" "[I" "StairsInSteps" ∈ jnest := List.mem_of_getElem? (i := 13) rfl
theorem nw_8_1_X2_41 : Cond.fieldLinkNest RX2 41 "StairsInSteps$Stairs" "state" "[I" "StairsInSteps" ∈ jnest := List.mem_of_getElem? (i := 12) rfl
theorem nw_8_2_X11_154 : Cond.fieldLinkNest RX11 154 "StairsInSteps$Stairs" "asks" "[I" "StairsInSteps" ∈ jnest := List.mem_of_getElem? (i := 15) rfl
theorem nw_8_2_X2_52 : Cond.fieldLinkNest RX2 52 "StairsInSteps$Stairs" "asks" "[I" "StairsInSteps" ∈ jnest := List.mem_of_getElem? (i := 14) rfl
theorem nw_8_2_X6_188 : Cond.fieldLinkNest RX6 188 "StairsInSteps$Stairs" "asks" "[I" "StairsInSteps" ∈ jnest := List.mem_of_getElem? (i := 16) rfl
theorem nw_8_3_X11_157 : Cond.fieldLinkNest RX11 157 "StairsInSteps$Stairs" "widow" "[I" "StairsInSteps" ∈ jnest := List.mem_of_getElem? (i := 17) rfl
theorem nw_8_4_X11_160 : Cond.fieldLinkNest RX11 160 "StairsInSteps$Stairs" "shares" "LStairsInSteps$Parts;" "StairsInSteps" ∈ jnest := List.mem_of_getElem? (i := 20) rfl
theorem nw_8_4_X2_55 : Cond.fieldLinkNest RX2 55 "StairsInSteps$Stairs" "shares" "LStairsInSteps$Parts;" "StairsInSteps" ∈ jnest := List.mem_of_getElem? (i := 18) rfl
theorem nw_8_4_X6_79 : Cond.fieldLinkNest RX6 79 "StairsInSteps$Stairs" "shares" "LStairsInSteps$Parts;" "StairsInSteps" ∈ jnest := List.mem_of_getElem? (i := 19) rfl
theorem nw_8_6_X11_128 : Cond.fieldLinkNest RX11 128 "StairsInSteps$Stairs" "treading" "LStairsInSteps$Law;" "StairsInSteps" ∈ jnest := List.mem_of_getElem? (i := 21) rfl
theorem nw_8_7_X11_135 : Cond.fieldLinkNest RX11 135 "StairsInSteps$Stairs" "leaping" "LStairsInSteps$Law;" "StairsInSteps" ∈ jnest := List.mem_of_getElem? (i := 22) rfl
theorem nw_8_9_X11_172 : Cond.fieldLinkNest RX11 172 "StairsInSteps$Stairs" "size" "I" "StairsInSteps" ∈ jnest := List.mem_of_getElem? (i := 24) rfl
theorem nw_8_9_X6_68 : Cond.fieldLinkNest RX6 68 "StairsInSteps$Stairs" "size" "I" "StairsInSteps" ∈ jnest := List.mem_of_getElem? (i := 23) rfl
theorem nw_9_0_X8_54 : Cond.fieldLinkNest RX8 54 "StairsInSteps$StairsReader" "rise" "[I" "StairsInSteps" ∈ jnest := List.mem_of_getElem? (i := 3) rfl
theorem nw_9_1_X8_61 : Cond.fieldLinkNest RX8 61 "StairsInSteps$StairsReader" "state" "[I" "StairsInSteps" ∈ jnest := List.mem_of_getElem? (i := 4) rfl
theorem nw_9_2_X8_62 : Cond.fieldLinkNest RX8 62 "StairsInSteps$StairsReader" "asks" "[I" "StairsInSteps" ∈ jnest := List.mem_of_getElem? (i := 5) rfl
theorem nw_9_3_X8_63 : Cond.fieldLinkNest RX8 63 "StairsInSteps$StairsReader" "widow" "[I" "StairsInSteps" ∈ jnest := List.mem_of_getElem? (i := 6) rfl
theorem nw_9_4_X8_64 : Cond.fieldLinkNest RX8 64 "StairsInSteps$StairsReader" "owner" "[I" "StairsInSteps" ∈ jnest := List.mem_of_getElem? (i := 7) rfl
theorem nw_9_5_X8_51 : Cond.fieldLinkNest RX8 51 "StairsInSteps$StairsReader" "size" "I" "StairsInSteps" ∈ jnest := List.mem_of_getElem? (i := 8) rfl
theorem nw_10_1_X11_94 : Cond.fieldLinkNest RX11 94 "StairsInSteps$Text" "size" "I" "StairsInSteps" ∈ jnest := List.mem_of_getElem? (i := 0) rfl
theorem nw_10_1_X3_44 : Cond.fieldLinkNest RX3 44 "StairsInSteps$Text" "size" "I" "StairsInSteps" ∈ jnest := List.mem_of_getElem? (i := 2) rfl
theorem nw_10_1_X9_40 : Cond.fieldLinkNest RX9 40 "StairsInSteps$Text" "size" "I" "StairsInSteps" ∈ jnest := List.mem_of_getElem? (i := 1) rfl
theorem nm_X0_init_X11_59 : Cond.methodLinkNest RX11 59 yX0_init "StairsInSteps" ∈ jnest := List.mem_of_getElem? (i := 59) rfl
theorem nm_X10_init_X11_11 : Cond.methodLinkNest RX11 11 yX10_init "StairsInSteps" ∈ jnest := List.mem_of_getElem? (i := 53) rfl
theorem nm_X11_bitOf_X6_111 : Cond.methodLinkNest RX6 111 yX11_bitOf "StairsInSteps" ∈ jnest := List.mem_of_getElem? (i := 66) rfl
theorem nm_X11_costIn_X0_71 : Cond.methodLinkNest RX0 71 yX11_costIn "StairsInSteps" ∈ jnest := List.mem_of_getElem? (i := 70) rfl
theorem nm_X11_costIn_X6_172 : Cond.methodLinkNest RX6 172 yX11_costIn "StairsInSteps" ∈ jnest := List.mem_of_getElem? (i := 73) rfl
theorem nm_X11_costIn_X7_89 : Cond.methodLinkNest RX7 89 yX11_costIn "StairsInSteps" ∈ jnest := List.mem_of_getElem? (i := 67) rfl
theorem nm_X11_effortIn_X0_93 : Cond.methodLinkNest RX0 93 yX11_effortIn "StairsInSteps" ∈ jnest := List.mem_of_getElem? (i := 71) rfl
theorem nm_X11_effortIn_X7_75 : Cond.methodLinkNest RX7 75 yX11_effortIn "StairsInSteps" ∈ jnest := List.mem_of_getElem? (i := 68) rfl
theorem nm_X11_isAsked_X6_191 : Cond.methodLinkNest RX6 191 yX11_isAsked "StairsInSteps" ∈ jnest := List.mem_of_getElem? (i := 72) rfl
theorem nm_X11_isFamily_X4_34 : Cond.methodLinkNest RX4 34 yX11_isFamily "StairsInSteps" ∈ jnest := List.mem_of_getElem? (i := 63) rfl
theorem nm_X11_isFamily_X8_71 : Cond.methodLinkNest RX8 71 yX11_isFamily "StairsInSteps" ∈ jnest := List.mem_of_getElem? (i := 64) rfl
theorem nm_X11_isFamily_X9_75 : Cond.methodLinkNest RX9 75 yX11_isFamily "StairsInSteps" ∈ jnest := List.mem_of_getElem? (i := 62) rfl
theorem nm_X11_treads_X1_68 : Cond.methodLinkNest RX1 68 yX11_treads "StairsInSteps" ∈ jnest := List.mem_of_getElem? (i := 74) rfl
theorem nm_X1_init_X11_66 : Cond.methodLinkNest RX11 66 yX1_init "StairsInSteps" ∈ jnest := List.mem_of_getElem? (i := 61) rfl
theorem nm_X2_init_X11_52 : Cond.methodLinkNest RX11 52 yX2_init "StairsInSteps" ∈ jnest := List.mem_of_getElem? (i := 58) rfl
theorem nm_X3_init_X8_36 : Cond.methodLinkNest RX8 36 yX3_init "StairsInSteps" ∈ jnest := List.mem_of_getElem? (i := 57) rfl
theorem nm_X4_init_X8_26 : Cond.methodLinkNest RX8 26 yX4_init "StairsInSteps" ∈ jnest := List.mem_of_getElem? (i := 56) rfl
theorem nm_X6_moveTo_X0_119 : Cond.methodLinkNest RX0 119 yX6_moveTo "StairsInSteps" ∈ jnest := List.mem_of_getElem? (i := 69) rfl
theorem nm_X7_init_X0_11 : Cond.methodLinkNest RX0 11 yX7_init "StairsInSteps" ∈ jnest := List.mem_of_getElem? (i := 60) rfl
theorem nm_X7_init_X6_30 : Cond.methodLinkNest RX6 30 yX7_init "StairsInSteps" ∈ jnest := List.mem_of_getElem? (i := 65) rfl
theorem nm_X8_init_X11_25 : Cond.methodLinkNest RX11 25 yX8_init "StairsInSteps" ∈ jnest := List.mem_of_getElem? (i := 55) rfl
theorem nm_X9_init_X11_18 : Cond.methodLinkNest RX11 18 yX9_init "StairsInSteps" ∈ jnest := List.mem_of_getElem? (i := 54) rfl
end
section
set_option maxRecDepth 100000 in
def f_X10_init (v0 : Nat) (Z : jZ) (I : jI) (L : jL) (Q : jZ → jI → jL → Prop) : Prop := (∀ q1 : Nat, q1 ∉ Z.1 → ∀ Z2 : jZ, Z2 = jnw Z q1 13 80 → ∀ I3 : jI, I3 = jz0 I q1 → ∀ L4 : jL, L4 = jzL L q1 → (∀ Z6 : jZ, Z6 = jpR Z2 v0 0 (some q1) → (∀ I8 : jI, I8 = jpI I3 v0 1 (0 : Int32) → Q Z6 I8 L4)))
set_option maxHeartbeats 4000000 in
set_option maxRecDepth 100000 in
theorem c_X10_init (l : Launch) (D : va_G) (cy : jC) (v0 : Nat) (Z : jZ) (I : jI) (L : jL) (Q : jZ → jI → jL → Prop) (kv0 : jk Z v0 10) (h : f_X10_init v0 Z I L Q) : jCt l yX10_init w_X10_init { frames := 1, cells := 1, slots := 80, locals := 20 } D cy [.ref v0] Z I L (rtN Z Q) := by
  refine jCt_ofI (cc := cX10_init) (maxL := 1) (ret := none) (by decide +kernel) rfl (Nat.le_of_ble_eq_true rfl) ?_
  intro G eD eY eL hini E
  subst eD; subst eY; subst eL
  have E : jE G cX10_init RX10 w_X10_init 1 none { frames := 1, cells := 1, slots := 80, locals := 20 } (rtN Z Q) := E
  have hx : jext Z Z := jext_rfl
  show jJ G 1 0 [(0, .ref v0)] [] Z I L 0 0
  refine j_aload_n E dX10_init_0 0 rfl ?_
  refine j_objinit E (tw W_961) (tw W_962) (tw W_963) (by decide) (Nat.le_of_ble_eq_true rfl) dX10_init_1 ?_
  refine j_aload_n E dX10_init_4 0 rfl ?_
  refine j_bipush E (v := 80) dX10_init_5 (by decide) ?_
  refine j_newaB E 80 (by decide) (by decide) (by decide) (tw W_964) (by decide) (by decide) dX10_init_7 (fun q1 nq1 => ?_)
  refine j_nmZ (fun Z2 eZ2 => ?_)
  refine j_nmI (fun I3 eI3 => ?_)
  refine j_nmL (fun L4 eL4 => ?_)
  have h := h q1 nq1 Z2 eZ2 I3 eI3 L4 eL4
  have yZ2 : jext Z Z2 := by rw [eZ2]; exact jext_nw nq1
  have kq1 : jk Z2 q1 13 := by rw [eZ2]; exact jk_nw
  have lq1 : jlen Z2 q1 = 80 := by rw [eZ2]; exact jlen_nw
  have k5 := (yZ2 _ _ kv0).1
  have hx : jext Z Z2 := jext_trans hx yZ2
  refine j_putrF E hini 10 0 rfl rfl (by decide) (by decide) (iw iT_10) tyX10_ok nmX10 rfl rfl (tw W_185) rfl rfl k5 dX10_init_9 ?_
  refine j_nmZ (fun Z6 eZ6 => ?_)
  have h := h Z6 eZ6
  have yZ6 : jext Z2 Z6 := by rw [eZ6]; exact jext_putr
  have k7 := (yZ6 _ _ k5).1
  have hx : jext Z Z6 := jext_trans hx yZ6
  refine j_aload_n E dX10_init_12 0 rfl ?_
  refine j_iconst E (v := 0) dX10_init_13 (by decide) ?_
  refine j_puti E 10 1 rfl rfl (by decide) (by decide) (iw iT_10) tyX10_ok nmX10 rfl rfl (tw W_184) rfl rfl rfl k7 dX10_init_14 ?_
  refine j_nmI (fun I8 eI8 => ?_)
  have h := h I8 eI8
  exact j_return E ⟨hx, rfl, h⟩ (by decide) (by decide) dX10_init_17
set_option maxRecDepth 100000 in
def f_X9_init (v0 : Nat) (Z : jZ) (I : jI) (L : jL) (Q : jZ → jI → jL → Prop) : Prop := (∀ q1 : Nat, q1 ∉ Z.1 → ∀ Z2 : jZ, Z2 = jnw Z q1 14 24 → ∀ I3 : jI, I3 = jz0 I q1 → ∀ L4 : jL, L4 = jzL L q1 → (∀ Z6 : jZ, Z6 = jpR Z2 v0 0 (some q1) → (∀ q8 : Nat, q8 ∉ Z6.1 → ∀ Z9 : jZ, Z9 = jnw Z6 q8 14 24 → ∀ I10 : jI, I10 = jz0 I3 q8 → ∀ L11 : jL, L11 = jzL L4 q8 → (∀ Z13 : jZ, Z13 = jpR Z9 v0 1 (some q8) → (∀ q15 : Nat, q15 ∉ Z13.1 → ∀ Z16 : jZ, Z16 = jnw Z13 q15 14 24 → ∀ I17 : jI, I17 = jz0 I10 q15 → ∀ L18 : jL, L18 = jzL L11 q15 → (∀ Z20 : jZ, Z20 = jpR Z16 v0 2 (some q15) → (∀ q22 : Nat, q22 ∉ Z20.1 → ∀ Z23 : jZ, Z23 = jnw Z20 q22 14 24 → ∀ I24 : jI, I24 = jz0 I17 q22 → ∀ L25 : jL, L25 = jzL L18 q22 → (∀ Z27 : jZ, Z27 = jpR Z23 v0 3 (some q22) → (∀ q29 : Nat, q29 ∉ Z27.1 → ∀ Z30 : jZ, Z30 = jnw Z27 q29 14 24 → ∀ I31 : jI, I31 = jz0 I24 q29 → ∀ L32 : jL, L32 = jzL L25 q29 → (∀ Z34 : jZ, Z34 = jpR Z30 v0 4 (some q29) → (∀ I36 : jI, I36 = jpI I31 v0 5 (0 : Int32) → (∀ I37 : jI, I37 = jpI I36 v0 6 (0 : Int32) → (∀ I38 : jI, I38 = jpI I37 v0 7 (0 : Int32) → (∀ I39 : jI, I39 = jpI I38 v0 8 (-1 : Int32) → Q Z34 I39 L32))))))))))))))
set_option maxHeartbeats 4000000 in
set_option maxRecDepth 100000 in
theorem c_X9_init (l : Launch) (D : va_G) (cy : jC) (v0 : Nat) (Z : jZ) (I : jI) (L : jL) (Q : jZ → jI → jL → Prop) (kv0 : jk Z v0 9) (h : f_X9_init v0 Z I L Q) : jCt l yX9_init w_X9_init { frames := 1, cells := 5, slots := 120, locals := 20 } D cy [.ref v0] Z I L (rtN Z Q) := by
  refine jCt_ofI (cc := cX9_init) (maxL := 1) (ret := none) (by decide +kernel) rfl (Nat.le_of_ble_eq_true rfl) ?_
  intro G eD eY eL hini E
  subst eD; subst eY; subst eL
  have E : jE G cX9_init RX9 w_X9_init 1 none { frames := 1, cells := 5, slots := 120, locals := 20 } (rtN Z Q) := E
  have hx : jext Z Z := jext_rfl
  show jJ G 1 0 [(0, .ref v0)] [] Z I L 0 0
  refine j_aload_n E dX9_init_0 0 rfl ?_
  refine j_objinit E (tw W_965) (tw W_962) (tw W_963) (by decide) (Nat.le_of_ble_eq_true rfl) dX9_init_1 ?_
  refine j_aload_n E dX9_init_4 0 rfl ?_
  refine j_bipush E (v := 24) dX9_init_5 (by decide) ?_
  refine j_newaI E 24 (by decide) (by decide) (by decide) (tw W_966) (by decide) (by decide) dX9_init_7 (fun q1 nq1 => ?_)
  refine j_nmZ (fun Z2 eZ2 => ?_)
  refine j_nmI (fun I3 eI3 => ?_)
  refine j_nmL (fun L4 eL4 => ?_)
  have h := h q1 nq1 Z2 eZ2 I3 eI3 L4 eL4
  have yZ2 : jext Z Z2 := by rw [eZ2]; exact jext_nw nq1
  have kq1 : jk Z2 q1 14 := by rw [eZ2]; exact jk_nw
  have lq1 : jlen Z2 q1 = 24 := by rw [eZ2]; exact jlen_nw
  have k5 := (yZ2 _ _ kv0).1
  have hx : jext Z Z2 := jext_trans hx yZ2
  refine j_putrF E hini 9 0 rfl rfl (by decide) (by decide) (iw iT_9) tyX9_ok nmX9 rfl rfl (tw W_392) rfl rfl k5 dX9_init_9 ?_
  refine j_nmZ (fun Z6 eZ6 => ?_)
  have h := h Z6 eZ6
  have yZ6 : jext Z2 Z6 := by rw [eZ6]; exact jext_putr
  have k7 := (yZ6 _ _ k5).1
  have hx : jext Z Z6 := jext_trans hx yZ6
  refine j_aload_n E dX9_init_12 0 rfl ?_
  refine j_bipush E (v := 24) dX9_init_13 (by decide) ?_
  refine j_newaI E 24 (by decide) (by decide) (by decide) (tw W_966) (by decide) (by decide) dX9_init_15 (fun q8 nq8 => ?_)
  refine j_nmZ (fun Z9 eZ9 => ?_)
  refine j_nmI (fun I10 eI10 => ?_)
  refine j_nmL (fun L11 eL11 => ?_)
  have h := h q8 nq8 Z9 eZ9 I10 eI10 L11 eL11
  have yZ9 : jext Z6 Z9 := by rw [eZ9]; exact jext_nw nq8
  have kq8 : jk Z9 q8 14 := by rw [eZ9]; exact jk_nw
  have lq8 : jlen Z9 q8 = 24 := by rw [eZ9]; exact jlen_nw
  have k12 := (yZ9 _ _ k7).1
  have hx : jext Z Z9 := jext_trans hx yZ9
  refine j_putrF E hini 9 1 rfl rfl (by decide) (by decide) (iw iT_9) tyX9_ok nmX9 rfl rfl (tw W_393) rfl rfl k12 dX9_init_17 ?_
  refine j_nmZ (fun Z13 eZ13 => ?_)
  have h := h Z13 eZ13
  have yZ13 : jext Z9 Z13 := by rw [eZ13]; exact jext_putr
  have k14 := (yZ13 _ _ k12).1
  have hx : jext Z Z13 := jext_trans hx yZ13
  refine j_aload_n E dX9_init_20 0 rfl ?_
  refine j_bipush E (v := 24) dX9_init_21 (by decide) ?_
  refine j_newaI E 24 (by decide) (by decide) (by decide) (tw W_966) (by decide) (by decide) dX9_init_23 (fun q15 nq15 => ?_)
  refine j_nmZ (fun Z16 eZ16 => ?_)
  refine j_nmI (fun I17 eI17 => ?_)
  refine j_nmL (fun L18 eL18 => ?_)
  have h := h q15 nq15 Z16 eZ16 I17 eI17 L18 eL18
  have yZ16 : jext Z13 Z16 := by rw [eZ16]; exact jext_nw nq15
  have kq15 : jk Z16 q15 14 := by rw [eZ16]; exact jk_nw
  have lq15 : jlen Z16 q15 = 24 := by rw [eZ16]; exact jlen_nw
  have k19 := (yZ16 _ _ k14).1
  have hx : jext Z Z16 := jext_trans hx yZ16
  refine j_putrF E hini 9 2 rfl rfl (by decide) (by decide) (iw iT_9) tyX9_ok nmX9 rfl rfl (tw W_394) rfl rfl k19 dX9_init_25 ?_
  refine j_nmZ (fun Z20 eZ20 => ?_)
  have h := h Z20 eZ20
  have yZ20 : jext Z16 Z20 := by rw [eZ20]; exact jext_putr
  have k21 := (yZ20 _ _ k19).1
  have hx : jext Z Z20 := jext_trans hx yZ20
  refine j_aload_n E dX9_init_28 0 rfl ?_
  refine j_bipush E (v := 24) dX9_init_29 (by decide) ?_
  refine j_newaI E 24 (by decide) (by decide) (by decide) (tw W_966) (by decide) (by decide) dX9_init_31 (fun q22 nq22 => ?_)
  refine j_nmZ (fun Z23 eZ23 => ?_)
  refine j_nmI (fun I24 eI24 => ?_)
  refine j_nmL (fun L25 eL25 => ?_)
  have h := h q22 nq22 Z23 eZ23 I24 eI24 L25 eL25
  have yZ23 : jext Z20 Z23 := by rw [eZ23]; exact jext_nw nq22
  have kq22 : jk Z23 q22 14 := by rw [eZ23]; exact jk_nw
  have lq22 : jlen Z23 q22 = 24 := by rw [eZ23]; exact jlen_nw
  have k26 := (yZ23 _ _ k21).1
  have hx : jext Z Z23 := jext_trans hx yZ23
  refine j_putrF E hini 9 3 rfl rfl (by decide) (by decide) (iw iT_9) tyX9_ok nmX9 rfl rfl (tw W_395) rfl rfl k26 dX9_init_33 ?_
  refine j_nmZ (fun Z27 eZ27 => ?_)
  have h := h Z27 eZ27
  have yZ27 : jext Z23 Z27 := by rw [eZ27]; exact jext_putr
  have k28 := (yZ27 _ _ k26).1
  have hx : jext Z Z27 := jext_trans hx yZ27
  refine j_aload_n E dX9_init_36 0 rfl ?_
  refine j_bipush E (v := 24) dX9_init_37 (by decide) ?_
  refine j_newaI E 24 (by decide) (by decide) (by decide) (tw W_966) (by decide) (by decide) dX9_init_39 (fun q29 nq29 => ?_)
  refine j_nmZ (fun Z30 eZ30 => ?_)
  refine j_nmI (fun I31 eI31 => ?_)
  refine j_nmL (fun L32 eL32 => ?_)
  have h := h q29 nq29 Z30 eZ30 I31 eI31 L32 eL32
  have yZ30 : jext Z27 Z30 := by rw [eZ30]; exact jext_nw nq29
  have kq29 : jk Z30 q29 14 := by rw [eZ30]; exact jk_nw
  have lq29 : jlen Z30 q29 = 24 := by rw [eZ30]; exact jlen_nw
  have k33 := (yZ30 _ _ k28).1
  have hx : jext Z Z30 := jext_trans hx yZ30
  refine j_putrF E hini 9 4 rfl rfl (by decide) (by decide) (iw iT_9) tyX9_ok nmX9 rfl rfl (tw W_396) rfl rfl k33 dX9_init_41 ?_
  refine j_nmZ (fun Z34 eZ34 => ?_)
  have h := h Z34 eZ34
  have yZ34 : jext Z30 Z34 := by rw [eZ34]; exact jext_putr
  have k35 := (yZ34 _ _ k33).1
  have hx : jext Z Z34 := jext_trans hx yZ34
  refine j_aload_n E dX9_init_44 0 rfl ?_
  refine j_iconst E (v := 0) dX9_init_45 (by decide) ?_
  refine j_puti E 9 5 rfl rfl (by decide) (by decide) (iw iT_9) tyX9_ok nmX9 rfl rfl (tw W_387) rfl rfl rfl k35 dX9_init_46 ?_
  refine j_nmI (fun I36 eI36 => ?_)
  have h := h I36 eI36
  refine j_aload_n E dX9_init_49 0 rfl ?_
  refine j_iconst E (v := 0) dX9_init_50 (by decide) ?_
  refine j_puti E 9 6 rfl rfl (by decide) (by decide) (iw iT_9) tyX9_ok nmX9 rfl rfl (tw W_374) rfl rfl rfl k35 dX9_init_51 ?_
  refine j_nmI (fun I37 eI37 => ?_)
  have h := h I37 eI37
  refine j_aload_n E dX9_init_54 0 rfl ?_
  refine j_iconst E (v := 0) dX9_init_55 (by decide) ?_
  refine j_puti E 9 7 rfl rfl (by decide) (by decide) (iw iT_9) tyX9_ok nmX9 rfl rfl (tw W_375) rfl rfl rfl k35 dX9_init_56 ?_
  refine j_nmI (fun I38 eI38 => ?_)
  have h := h I38 eI38
  refine j_aload_n E dX9_init_59 0 rfl ?_
  refine j_iconst E (v := -1) dX9_init_60 (by decide) ?_
  refine j_puti E 9 8 rfl rfl (by decide) (by decide) (iw iT_9) tyX9_ok nmX9 rfl rfl (tw W_373) rfl rfl rfl k35 dX9_init_61 ?_
  refine j_nmI (fun I39 eI39 => ?_)
  have h := h I39 eI39
  exact j_return E ⟨hx, rfl, h⟩ (by decide) (by decide) dX9_init_64
set_option maxRecDepth 100000 in
def f_X4_init (v0 : Nat) (Z : jZ) (I : jI) (L : jL) (Q : jZ → jI → jL → Prop) : Prop := (∀ q1 : Nat, q1 ∉ Z.1 → ∀ Z2 : jZ, Z2 = jnw Z q1 14 192 → ∀ I3 : jI, I3 = jz0 I q1 → ∀ L4 : jL, L4 = jzL L q1 → (∀ Z6 : jZ, Z6 = jpR Z2 v0 0 (some q1) → (∀ q8 : Nat, q8 ∉ Z6.1 → ∀ Z9 : jZ, Z9 = jnw Z6 q8 14 24 → ∀ I10 : jI, I10 = jz0 I3 q8 → ∀ L11 : jL, L11 = jzL L4 q8 → (∀ Z13 : jZ, Z13 = jpR Z9 v0 1 (some q8) → (∀ q15 : Nat, q15 ∉ Z13.1 → ∀ Z16 : jZ, Z16 = jnw Z13 q15 14 1536 → ∀ I17 : jI, I17 = jz0 I10 q15 → ∀ L18 : jL, L18 = jzL L11 q15 → (∀ Z20 : jZ, Z20 = jpR Z16 v0 2 (some q15) → (∀ I22 : jI, I22 = jpI I17 v0 3 (0 : Int32) → (∀ I23 : jI, I23 = jpI I22 v0 4 (0 : Int32) → Q Z20 I23 L18))))))))
set_option maxHeartbeats 4000000 in
set_option maxRecDepth 100000 in
theorem c_X4_init (l : Launch) (D : va_G) (cy : jC) (v0 : Nat) (Z : jZ) (I : jI) (L : jL) (Q : jZ → jI → jL → Prop) (kv0 : jk Z v0 4) (h : f_X4_init v0 Z I L Q) : jCt l yX4_init w_X4_init { frames := 1, cells := 3, slots := 1752, locals := 20 } D cy [.ref v0] Z I L (rtN Z Q) := by
  refine jCt_ofI (cc := cX4_init) (maxL := 1) (ret := none) (by decide +kernel) rfl (Nat.le_of_ble_eq_true rfl) ?_
  intro G eD eY eL hini E
  subst eD; subst eY; subst eL
  have E : jE G cX4_init RX4 w_X4_init 1 none { frames := 1, cells := 3, slots := 1752, locals := 20 } (rtN Z Q) := E
  have hx : jext Z Z := jext_rfl
  show jJ G 1 0 [(0, .ref v0)] [] Z I L 0 0
  refine j_aload_n E dX4_init_0 0 rfl ?_
  refine j_objinit E (tw W_967) (tw W_962) (tw W_963) (by decide) (Nat.le_of_ble_eq_true rfl) dX4_init_1 ?_
  refine j_aload_n E dX4_init_4 0 rfl ?_
  refine j_sipush E (v := 192) dX4_init_5 (by decide) ?_
  refine j_newaI E 192 (by decide) (by decide) (by decide) (tw W_966) (by decide) (by decide) dX4_init_8 (fun q1 nq1 => ?_)
  refine j_nmZ (fun Z2 eZ2 => ?_)
  refine j_nmI (fun I3 eI3 => ?_)
  refine j_nmL (fun L4 eL4 => ?_)
  have h := h q1 nq1 Z2 eZ2 I3 eI3 L4 eL4
  have yZ2 : jext Z Z2 := by rw [eZ2]; exact jext_nw nq1
  have kq1 : jk Z2 q1 14 := by rw [eZ2]; exact jk_nw
  have lq1 : jlen Z2 q1 = 192 := by rw [eZ2]; exact jlen_nw
  have k5 := (yZ2 _ _ kv0).1
  have hx : jext Z Z2 := jext_trans hx yZ2
  refine j_putrF E hini 4 0 rfl rfl (by decide) (by decide) (iw iT_4) tyX4_ok nmX4 rfl rfl (tw W_158) rfl rfl k5 dX4_init_10 ?_
  refine j_nmZ (fun Z6 eZ6 => ?_)
  have h := h Z6 eZ6
  have yZ6 : jext Z2 Z6 := by rw [eZ6]; exact jext_putr
  have k7 := (yZ6 _ _ k5).1
  have hx : jext Z Z6 := jext_trans hx yZ6
  refine j_aload_n E dX4_init_13 0 rfl ?_
  refine j_bipush E (v := 24) dX4_init_14 (by decide) ?_
  refine j_newaI E 24 (by decide) (by decide) (by decide) (tw W_966) (by decide) (by decide) dX4_init_16 (fun q8 nq8 => ?_)
  refine j_nmZ (fun Z9 eZ9 => ?_)
  refine j_nmI (fun I10 eI10 => ?_)
  refine j_nmL (fun L11 eL11 => ?_)
  have h := h q8 nq8 Z9 eZ9 I10 eI10 L11 eL11
  have yZ9 : jext Z6 Z9 := by rw [eZ9]; exact jext_nw nq8
  have kq8 : jk Z9 q8 14 := by rw [eZ9]; exact jk_nw
  have lq8 : jlen Z9 q8 = 24 := by rw [eZ9]; exact jlen_nw
  have k12 := (yZ9 _ _ k7).1
  have hx : jext Z Z9 := jext_trans hx yZ9
  refine j_putrF E hini 4 1 rfl rfl (by decide) (by decide) (iw iT_4) tyX4_ok nmX4 rfl rfl (tw W_157) rfl rfl k12 dX4_init_18 ?_
  refine j_nmZ (fun Z13 eZ13 => ?_)
  have h := h Z13 eZ13
  have yZ13 : jext Z9 Z13 := by rw [eZ13]; exact jext_putr
  have k14 := (yZ13 _ _ k12).1
  have hx : jext Z Z13 := jext_trans hx yZ13
  refine j_aload_n E dX4_init_21 0 rfl ?_
  refine j_sipush E (v := 1536) dX4_init_22 (by decide) ?_
  refine j_newaI E 1536 (by decide) (by decide) (by decide) (tw W_966) (by decide) (by decide) dX4_init_25 (fun q15 nq15 => ?_)
  refine j_nmZ (fun Z16 eZ16 => ?_)
  refine j_nmI (fun I17 eI17 => ?_)
  refine j_nmL (fun L18 eL18 => ?_)
  have h := h q15 nq15 Z16 eZ16 I17 eI17 L18 eL18
  have yZ16 : jext Z13 Z16 := by rw [eZ16]; exact jext_nw nq15
  have kq15 : jk Z16 q15 14 := by rw [eZ16]; exact jk_nw
  have lq15 : jlen Z16 q15 = 1536 := by rw [eZ16]; exact jlen_nw
  have k19 := (yZ16 _ _ k14).1
  have hx : jext Z Z16 := jext_trans hx yZ16
  refine j_putrF E hini 4 2 rfl rfl (by decide) (by decide) (iw iT_4) tyX4_ok nmX4 rfl rfl (tw W_231) rfl rfl k19 dX4_init_27 ?_
  refine j_nmZ (fun Z20 eZ20 => ?_)
  have h := h Z20 eZ20
  have yZ20 : jext Z16 Z20 := by rw [eZ20]; exact jext_putr
  have k21 := (yZ20 _ _ k19).1
  have hx : jext Z Z20 := jext_trans hx yZ20
  refine j_aload_n E dX4_init_30 0 rfl ?_
  refine j_iconst E (v := 0) dX4_init_31 (by decide) ?_
  refine j_puti E 4 3 rfl rfl (by decide) (by decide) (iw iT_4) tyX4_ok nmX4 rfl rfl (tw W_230) rfl rfl rfl k21 dX4_init_32 ?_
  refine j_nmI (fun I22 eI22 => ?_)
  have h := h I22 eI22
  refine j_aload_n E dX4_init_35 0 rfl ?_
  refine j_iconst E (v := 0) dX4_init_36 (by decide) ?_
  refine j_puti E 4 4 rfl rfl (by decide) (by decide) (iw iT_4) tyX4_ok nmX4 rfl rfl (tw W_165) rfl rfl rfl k21 dX4_init_37 ?_
  refine j_nmI (fun I23 eI23 => ?_)
  have h := h I23 eI23
  exact j_return E ⟨hx, rfl, h⟩ (by decide) (by decide) dX4_init_40
set_option maxRecDepth 100000 in
def f_X3_init (v0 : Nat) (Z : jZ) (I : jI) (L : jL) (Q : jZ → jI → jL → Prop) : Prop := (∀ q1 : Nat, q1 ∉ Z.1 → ∀ Z2 : jZ, Z2 = jnw Z q1 14 40 → ∀ I3 : jI, I3 = jz0 I q1 → ∀ L4 : jL, L4 = jzL L q1 → (∀ Z6 : jZ, Z6 = jpR Z2 v0 0 (some q1) → (∀ q8 : Nat, q8 ∉ Z6.1 → ∀ Z9 : jZ, Z9 = jnw Z6 q8 14 40 → ∀ I10 : jI, I10 = jz0 I3 q8 → ∀ L11 : jL, L11 = jzL L4 q8 → (∀ Z13 : jZ, Z13 = jpR Z9 v0 1 (some q8) → (∀ q15 : Nat, q15 ∉ Z13.1 → ∀ Z16 : jZ, Z16 = jnw Z13 q15 14 41 → ∀ I17 : jI, I17 = jz0 I10 q15 → ∀ L18 : jL, L18 = jzL L11 q15 → (∀ Z20 : jZ, Z20 = jpR Z16 v0 2 (some q15) → (∀ I22 : jI, I22 = jpI I17 v0 3 (0 : Int32) → (∀ I23 : jI, I23 = jpI I22 v0 4 (0 : Int32) → (∀ I24 : jI, I24 = jpI I23 v0 5 (0 : Int32) → (∀ I25 : jI, I25 = jpI I24 v0 6 (0 : Int32) → (∀ I26 : jI, I26 = jpI I25 v0 7 (0 : Int32) → (∀ I27 : jI, I27 = jpI I26 v0 8 (-1 : Int32) → Q Z20 I27 L18))))))))))))
set_option maxHeartbeats 4000000 in
set_option maxRecDepth 100000 in
theorem c_X3_init (l : Launch) (D : va_G) (cy : jC) (v0 : Nat) (Z : jZ) (I : jI) (L : jL) (Q : jZ → jI → jL → Prop) (kv0 : jk Z v0 3) (h : f_X3_init v0 Z I L Q) : jCt l yX3_init w_X3_init { frames := 1, cells := 3, slots := 121, locals := 20 } D cy [.ref v0] Z I L (rtN Z Q) := by
  refine jCt_ofI (cc := cX3_init) (maxL := 1) (ret := none) (by decide +kernel) rfl (Nat.le_of_ble_eq_true rfl) ?_
  intro G eD eY eL hini E
  subst eD; subst eY; subst eL
  have E : jE G cX3_init RX3 w_X3_init 1 none { frames := 1, cells := 3, slots := 121, locals := 20 } (rtN Z Q) := E
  have hx : jext Z Z := jext_rfl
  show jJ G 1 0 [(0, .ref v0)] [] Z I L 0 0
  refine j_aload_n E dX3_init_0 0 rfl ?_
  refine j_objinit E (tw W_968) (tw W_962) (tw W_963) (by decide) (Nat.le_of_ble_eq_true rfl) dX3_init_1 ?_
  refine j_aload_n E dX3_init_4 0 rfl ?_
  refine j_bipush E (v := 40) dX3_init_5 (by decide) ?_
  refine j_newaI E 40 (by decide) (by decide) (by decide) (tw W_966) (by decide) (by decide) dX3_init_7 (fun q1 nq1 => ?_)
  refine j_nmZ (fun Z2 eZ2 => ?_)
  refine j_nmI (fun I3 eI3 => ?_)
  refine j_nmL (fun L4 eL4 => ?_)
  have h := h q1 nq1 Z2 eZ2 I3 eI3 L4 eL4
  have yZ2 : jext Z Z2 := by rw [eZ2]; exact jext_nw nq1
  have kq1 : jk Z2 q1 14 := by rw [eZ2]; exact jk_nw
  have lq1 : jlen Z2 q1 = 40 := by rw [eZ2]; exact jlen_nw
  have k5 := (yZ2 _ _ kv0).1
  have hx : jext Z Z2 := jext_trans hx yZ2
  refine j_putrF E hini 3 0 rfl rfl (by decide) (by decide) (iw iT_3) tyX3_ok nmX3 rfl rfl (tw W_211) rfl rfl k5 dX3_init_9 ?_
  refine j_nmZ (fun Z6 eZ6 => ?_)
  have h := h Z6 eZ6
  have yZ6 : jext Z2 Z6 := by rw [eZ6]; exact jext_putr
  have k7 := (yZ6 _ _ k5).1
  have hx : jext Z Z6 := jext_trans hx yZ6
  refine j_aload_n E dX3_init_12 0 rfl ?_
  refine j_bipush E (v := 40) dX3_init_13 (by decide) ?_
  refine j_newaI E 40 (by decide) (by decide) (by decide) (tw W_966) (by decide) (by decide) dX3_init_15 (fun q8 nq8 => ?_)
  refine j_nmZ (fun Z9 eZ9 => ?_)
  refine j_nmI (fun I10 eI10 => ?_)
  refine j_nmL (fun L11 eL11 => ?_)
  have h := h q8 nq8 Z9 eZ9 I10 eI10 L11 eL11
  have yZ9 : jext Z6 Z9 := by rw [eZ9]; exact jext_nw nq8
  have kq8 : jk Z9 q8 14 := by rw [eZ9]; exact jk_nw
  have lq8 : jlen Z9 q8 = 40 := by rw [eZ9]; exact jlen_nw
  have k12 := (yZ9 _ _ k7).1
  have hx : jext Z Z9 := jext_trans hx yZ9
  refine j_putrF E hini 3 1 rfl rfl (by decide) (by decide) (iw iT_3) tyX3_ok nmX3 rfl rfl (tw W_199) rfl rfl k12 dX3_init_17 ?_
  refine j_nmZ (fun Z13 eZ13 => ?_)
  have h := h Z13 eZ13
  have yZ13 : jext Z9 Z13 := by rw [eZ13]; exact jext_putr
  have k14 := (yZ13 _ _ k12).1
  have hx : jext Z Z13 := jext_trans hx yZ13
  refine j_aload_n E dX3_init_20 0 rfl ?_
  refine j_bipush E (v := 41) dX3_init_21 (by decide) ?_
  refine j_newaI E 41 (by decide) (by decide) (by decide) (tw W_966) (by decide) (by decide) dX3_init_23 (fun q15 nq15 => ?_)
  refine j_nmZ (fun Z16 eZ16 => ?_)
  refine j_nmI (fun I17 eI17 => ?_)
  refine j_nmL (fun L18 eL18 => ?_)
  have h := h q15 nq15 Z16 eZ16 I17 eI17 L18 eL18
  have yZ16 : jext Z13 Z16 := by rw [eZ16]; exact jext_nw nq15
  have kq15 : jk Z16 q15 14 := by rw [eZ16]; exact jk_nw
  have lq15 : jlen Z16 q15 = 41 := by rw [eZ16]; exact jlen_nw
  have k19 := (yZ16 _ _ k14).1
  have hx : jext Z Z16 := jext_trans hx yZ16
  refine j_putrF E hini 3 2 rfl rfl (by decide) (by decide) (iw iT_3) tyX3_ok nmX3 rfl rfl (tw W_214) rfl rfl k19 dX3_init_25 ?_
  refine j_nmZ (fun Z20 eZ20 => ?_)
  have h := h Z20 eZ20
  have yZ20 : jext Z16 Z20 := by rw [eZ20]; exact jext_putr
  have k21 := (yZ20 _ _ k19).1
  have hx : jext Z Z20 := jext_trans hx yZ20
  refine j_aload_n E dX3_init_28 0 rfl ?_
  refine j_iconst E (v := 0) dX3_init_29 (by decide) ?_
  refine j_puti E 3 3 rfl rfl (by decide) (by decide) (iw iT_3) tyX3_ok nmX3 rfl rfl (tw W_177) rfl rfl rfl k21 dX3_init_30 ?_
  refine j_nmI (fun I22 eI22 => ?_)
  have h := h I22 eI22
  refine j_aload_n E dX3_init_33 0 rfl ?_
  refine j_iconst E (v := 0) dX3_init_34 (by decide) ?_
  refine j_puti E 3 4 rfl rfl (by decide) (by decide) (iw iT_3) tyX3_ok nmX3 rfl rfl (tw W_183) rfl rfl rfl k21 dX3_init_35 ?_
  refine j_nmI (fun I23 eI23 => ?_)
  have h := h I23 eI23
  refine j_aload_n E dX3_init_38 0 rfl ?_
  refine j_iconst E (v := 0) dX3_init_39 (by decide) ?_
  refine j_puti E 3 5 rfl rfl (by decide) (by decide) (iw iT_3) tyX3_ok nmX3 rfl rfl (tw W_198) rfl rfl rfl k21 dX3_init_40 ?_
  refine j_nmI (fun I24 eI24 => ?_)
  have h := h I24 eI24
  refine j_aload_n E dX3_init_43 0 rfl ?_
  refine j_iconst E (v := 0) dX3_init_44 (by decide) ?_
  refine j_puti E 3 6 rfl rfl (by decide) (by decide) (iw iT_3) tyX3_ok nmX3 rfl rfl (tw W_186) rfl rfl rfl k21 dX3_init_45 ?_
  refine j_nmI (fun I25 eI25 => ?_)
  have h := h I25 eI25
  refine j_aload_n E dX3_init_48 0 rfl ?_
  refine j_iconst E (v := 0) dX3_init_49 (by decide) ?_
  refine j_puti E 3 7 rfl rfl (by decide) (by decide) (iw iT_3) tyX3_ok nmX3 rfl rfl (tw W_187) rfl rfl rfl k21 dX3_init_50 ?_
  refine j_nmI (fun I26 eI26 => ?_)
  have h := h I26 eI26
  refine j_aload_n E dX3_init_53 0 rfl ?_
  refine j_iconst E (v := -1) dX3_init_54 (by decide) ?_
  refine j_puti E 3 8 rfl rfl (by decide) (by decide) (iw iT_3) tyX3_ok nmX3 rfl rfl (tw W_197) rfl rfl rfl k21 dX3_init_55 ?_
  refine j_nmI (fun I27 eI27 => ?_)
  have h := h I27 eI27
  exact j_return E ⟨hx, rfl, h⟩ (by decide) (by decide) dX3_init_58
set_option maxRecDepth 100000 in
def f_X8_init (v0 : Nat) (Z : jZ) (I : jI) (L : jL) (Q : jZ → jI → jL → Prop) : Prop := (∀ q1 : Nat, q1 ∉ Z.1 → ∀ Z2 : jZ, Z2 = jnw Z q1 14 24 → ∀ I3 : jI, I3 = jz0 I q1 → ∀ L4 : jL, L4 = jzL L q1 → (∀ Z6 : jZ, Z6 = jpR Z2 v0 0 (some q1) → (∀ q8 : Nat, q8 ∉ Z6.1 → ∀ Z9 : jZ, Z9 = jnw Z6 q8 14 24 → ∀ I10 : jI, I10 = jz0 I3 q8 → ∀ L11 : jL, L11 = jzL L4 q8 → (∀ Z13 : jZ, Z13 = jpR Z9 v0 1 (some q8) → (∀ q15 : Nat, q15 ∉ Z13.1 → ∀ Z16 : jZ, Z16 = jnw Z13 q15 14 24 → ∀ I17 : jI, I17 = jz0 I10 q15 → ∀ L18 : jL, L18 = jzL L11 q15 → (∀ Z20 : jZ, Z20 = jpR Z16 v0 2 (some q15) → (∀ q22 : Nat, q22 ∉ Z20.1 → ∀ Z23 : jZ, Z23 = jnw Z20 q22 14 24 → ∀ I24 : jI, I24 = jz0 I17 q22 → ∀ L25 : jL, L25 = jzL L18 q22 → (∀ Z27 : jZ, Z27 = jpR Z23 v0 3 (some q22) → (∀ q29 : Nat, q29 ∉ Z27.1 → ∀ Z30 : jZ, Z30 = jnw Z27 q29 4 0 → ∀ I31 : jI, I31 = jz0 I24 q29 → ∀ L32 : jL, L32 = jzL L25 q29 → (f_X4_init q29 Z30 I31 L32 (fun Z35 I36 L37 => (∀ Z42 : jZ, Z42 = jpR Z35 v0 4 (some q29) → (∀ q44 : Nat, q44 ∉ Z42.1 → ∀ Z45 : jZ, Z45 = jnw Z42 q44 14 8 → ∀ I46 : jI, I46 = jz0 I36 q44 → ∀ L47 : jL, L47 = jzL L37 q44 → (∀ Z49 : jZ, Z49 = jpR Z45 v0 5 (some q44) → (∀ q51 : Nat, q51 ∉ Z49.1 → ∀ Z52 : jZ, Z52 = jnw Z49 q51 3 0 → ∀ I53 : jI, I53 = jz0 I46 q51 → ∀ L54 : jL, L54 = jzL L47 q51 → (f_X3_init q51 Z52 I53 L54 (fun Z57 I58 L59 => (∀ Z64 : jZ, Z64 = jpR Z57 v0 6 (some q51) → (∀ q66 : Nat, q66 ∉ Z64.1 → ∀ Z67 : jZ, Z67 = jnw Z64 q66 3 0 → ∀ I68 : jI, I68 = jz0 I58 q66 → ∀ L69 : jL, L69 = jzL L59 q66 → (f_X3_init q66 Z67 I68 L69 (fun Z72 I73 L74 => (∀ Z79 : jZ, Z79 = jpR Z72 v0 7 (some q66) → (∀ q81 : Nat, q81 ∉ Z79.1 → ∀ Z82 : jZ, Z82 = jnw Z79 q81 14 7 → ∀ I83 : jI, I83 = jz0 I73 q81 → ∀ L84 : jL, L84 = jzL L74 q81 → (∀ Z86 : jZ, Z86 = jpR Z82 v0 8 (some q81) → (∀ I88 : jI, I88 = jpI I83 v0 9 (0 : Int32) → Q Z86 I88 L84)))))))))))))))))))))))))
set_option maxHeartbeats 4000000 in
set_option maxRecDepth 100000 in
theorem c_X8_init (l : Launch) (D : va_G) (cy : jC) (v0 : Nat) (Z : jZ) (I : jI) (L : jL) (Q : jZ → jI → jL → Prop) (kv0 : jk Z v0 8) (h : f_X8_init v0 Z I L Q) : jCt l yX8_init w_X8_init { frames := 2, cells := 18, slots := 2128, locals := 40 } D cy [.ref v0] Z I L (rtN Z Q) := by
  refine jCt_ofI (cc := cX8_init) (maxL := 1) (ret := none) (by decide +kernel) rfl (Nat.le_of_ble_eq_true rfl) ?_
  intro G eD eY eL hini E
  subst eD; subst eY; subst eL
  have E : jE G cX8_init RX8 w_X8_init 1 none { frames := 2, cells := 18, slots := 2128, locals := 40 } (rtN Z Q) := E
  have hx : jext Z Z := jext_rfl
  show jJ G 1 0 [(0, .ref v0)] [] Z I L 0 0
  refine j_aload_n E dX8_init_0 0 rfl ?_
  refine j_objinit E (tw W_969) (tw W_962) (tw W_963) (by decide) (Nat.le_of_ble_eq_true rfl) dX8_init_1 ?_
  refine j_aload_n E dX8_init_4 0 rfl ?_
  refine j_bipush E (v := 24) dX8_init_5 (by decide) ?_
  refine j_newaI E 24 (by decide) (by decide) (by decide) (tw W_966) (by decide) (by decide) dX8_init_7 (fun q1 nq1 => ?_)
  refine j_nmZ (fun Z2 eZ2 => ?_)
  refine j_nmI (fun I3 eI3 => ?_)
  refine j_nmL (fun L4 eL4 => ?_)
  have h := h q1 nq1 Z2 eZ2 I3 eI3 L4 eL4
  have yZ2 : jext Z Z2 := by rw [eZ2]; exact jext_nw nq1
  have kq1 : jk Z2 q1 14 := by rw [eZ2]; exact jk_nw
  have lq1 : jlen Z2 q1 = 24 := by rw [eZ2]; exact jlen_nw
  have k5 := (yZ2 _ _ kv0).1
  have hx : jext Z Z2 := jext_trans hx yZ2
  refine j_putrF E hini 8 0 rfl rfl (by decide) (by decide) (iw iT_8) tyX8_ok nmX8 rfl rfl (tw W_259) rfl rfl k5 dX8_init_9 ?_
  refine j_nmZ (fun Z6 eZ6 => ?_)
  have h := h Z6 eZ6
  have yZ6 : jext Z2 Z6 := by rw [eZ6]; exact jext_putr
  have k7 := (yZ6 _ _ k5).1
  have hx : jext Z Z6 := jext_trans hx yZ6
  refine j_aload_n E dX8_init_12 0 rfl ?_
  refine j_bipush E (v := 24) dX8_init_13 (by decide) ?_
  refine j_newaI E 24 (by decide) (by decide) (by decide) (tw W_966) (by decide) (by decide) dX8_init_15 (fun q8 nq8 => ?_)
  refine j_nmZ (fun Z9 eZ9 => ?_)
  refine j_nmI (fun I10 eI10 => ?_)
  refine j_nmL (fun L11 eL11 => ?_)
  have h := h q8 nq8 Z9 eZ9 I10 eI10 L11 eL11
  have yZ9 : jext Z6 Z9 := by rw [eZ9]; exact jext_nw nq8
  have kq8 : jk Z9 q8 14 := by rw [eZ9]; exact jk_nw
  have lq8 : jlen Z9 q8 = 24 := by rw [eZ9]; exact jlen_nw
  have k12 := (yZ9 _ _ k7).1
  have hx : jext Z Z9 := jext_trans hx yZ9
  refine j_putrF E hini 8 1 rfl rfl (by decide) (by decide) (iw iT_8) tyX8_ok nmX8 rfl rfl (tw W_260) rfl rfl k12 dX8_init_17 ?_
  refine j_nmZ (fun Z13 eZ13 => ?_)
  have h := h Z13 eZ13
  have yZ13 : jext Z9 Z13 := by rw [eZ13]; exact jext_putr
  have k14 := (yZ13 _ _ k12).1
  have hx : jext Z Z13 := jext_trans hx yZ13
  refine j_aload_n E dX8_init_20 0 rfl ?_
  refine j_bipush E (v := 24) dX8_init_21 (by decide) ?_
  refine j_newaI E 24 (by decide) (by decide) (by decide) (tw W_966) (by decide) (by decide) dX8_init_23 (fun q15 nq15 => ?_)
  refine j_nmZ (fun Z16 eZ16 => ?_)
  refine j_nmI (fun I17 eI17 => ?_)
  refine j_nmL (fun L18 eL18 => ?_)
  have h := h q15 nq15 Z16 eZ16 I17 eI17 L18 eL18
  have yZ16 : jext Z13 Z16 := by rw [eZ16]; exact jext_nw nq15
  have kq15 : jk Z16 q15 14 := by rw [eZ16]; exact jk_nw
  have lq15 : jlen Z16 q15 = 24 := by rw [eZ16]; exact jlen_nw
  have k19 := (yZ16 _ _ k14).1
  have hx : jext Z Z16 := jext_trans hx yZ16
  refine j_putrF E hini 8 2 rfl rfl (by decide) (by decide) (iw iT_8) tyX8_ok nmX8 rfl rfl (tw W_258) rfl rfl k19 dX8_init_25 ?_
  refine j_nmZ (fun Z20 eZ20 => ?_)
  have h := h Z20 eZ20
  have yZ20 : jext Z16 Z20 := by rw [eZ20]; exact jext_putr
  have k21 := (yZ20 _ _ k19).1
  have hx : jext Z Z20 := jext_trans hx yZ20
  refine j_aload_n E dX8_init_28 0 rfl ?_
  refine j_bipush E (v := 24) dX8_init_29 (by decide) ?_
  refine j_newaI E 24 (by decide) (by decide) (by decide) (tw W_966) (by decide) (by decide) dX8_init_31 (fun q22 nq22 => ?_)
  refine j_nmZ (fun Z23 eZ23 => ?_)
  refine j_nmI (fun I24 eI24 => ?_)
  refine j_nmL (fun L25 eL25 => ?_)
  have h := h q22 nq22 Z23 eZ23 I24 eI24 L25 eL25
  have yZ23 : jext Z20 Z23 := by rw [eZ23]; exact jext_nw nq22
  have kq22 : jk Z23 q22 14 := by rw [eZ23]; exact jk_nw
  have lq22 : jlen Z23 q22 = 24 := by rw [eZ23]; exact jlen_nw
  have k26 := (yZ23 _ _ k21).1
  have hx : jext Z Z23 := jext_trans hx yZ23
  refine j_putrF E hini 8 3 rfl rfl (by decide) (by decide) (iw iT_8) tyX8_ok nmX8 rfl rfl (tw W_261) rfl rfl k26 dX8_init_33 ?_
  refine j_nmZ (fun Z27 eZ27 => ?_)
  have h := h Z27 eZ27
  have yZ27 : jext Z23 Z27 := by rw [eZ27]; exact jext_putr
  have k28 := (yZ27 _ _ k26).1
  have hx : jext Z Z27 := jext_trans hx yZ27
  refine j_aload_n E dX8_init_36 0 rfl ?_
  refine j_new E 4 rfl rfl (by decide) (iw iT_4) tyX4_ok (by decide) (tw W_970) (tw W_971) (tw W_160) (by decide) (by decide) dX8_init_37 (fun q29 nq29 => ?_)
  refine j_nmZ (fun Z30 eZ30 => ?_)
  refine j_nmI (fun I31 eI31 => ?_)
  refine j_nmL (fun L32 eL32 => ?_)
  have h := h q29 nq29 Z30 eZ30 I31 eI31 L32 eL32
  have yZ30 : jext Z27 Z30 := by rw [eZ30]; exact jext_nw nq29
  have kq29 : jk Z30 q29 4 := by rw [eZ30]; exact jk_nw
  have lq29 : jlen Z30 q29 = 0 := by rw [eZ30]; exact jlen_nw
  have k33 := (yZ30 _ _ k28).1
  have hx : jext Z Z30 := jext_trans hx yZ30
  refine j_dup E dX8_init_40 rfl ?_
  refine j_callIN E [] [.ref q29, .ref v0] (c_X4_init (gL G) (gD G) (gY G) q29 Z30 I31 L32 _ kq29 h) (gwN W_972) rfl (nm_X4_init_X8_26) (tw W_160) (tw W_973) rfl fy_X4_init ⟨by decide, by decide⟩ rfl rfl (Nat.le_of_ble_eq_true rfl) ⟨by decide, by decide⟩ dX8_init_41 (fun v34 Z35 I36 L37 q38 => ?_)
  obtain ⟨yZ35, rfl, h⟩ := q38
  have k39 := (yZ35 _ _ k33).1
  have k40 := (yZ35 _ _ kq29).1
  have l41 := (yZ35 _ _ kq29).2.trans lq29
  have hx : jext Z Z35 := jext_trans hx yZ35
  show jJ G 1 44 [(0, .ref v0)] [.ref q29, .ref v0] Z35 I36 L37 _ _
  refine j_putrF E hini 8 4 rfl rfl (by decide) (by decide) (iw iT_8) tyX8_ok nmX8 rfl rfl (tw W_262) rfl rfl k39 dX8_init_44 ?_
  refine j_nmZ (fun Z42 eZ42 => ?_)
  have h := h Z42 eZ42
  have yZ42 : jext Z35 Z42 := by rw [eZ42]; exact jext_putr
  have k43 := (yZ42 _ _ k39).1
  have hx : jext Z Z42 := jext_trans hx yZ42
  refine j_aload_n E dX8_init_47 0 rfl ?_
  refine j_bipush E (v := 8) dX8_init_48 (by decide) ?_
  refine j_newaI E 8 (by decide) (by decide) (by decide) (tw W_966) (by decide) (by decide) dX8_init_50 (fun q44 nq44 => ?_)
  refine j_nmZ (fun Z45 eZ45 => ?_)
  refine j_nmI (fun I46 eI46 => ?_)
  refine j_nmL (fun L47 eL47 => ?_)
  have h := h q44 nq44 Z45 eZ45 I46 eI46 L47 eL47
  have yZ45 : jext Z42 Z45 := by rw [eZ45]; exact jext_nw nq44
  have kq44 : jk Z45 q44 14 := by rw [eZ45]; exact jk_nw
  have lq44 : jlen Z45 q44 = 8 := by rw [eZ45]; exact jlen_nw
  have k48 := (yZ45 _ _ k43).1
  have hx : jext Z Z45 := jext_trans hx yZ45
  refine j_putrF E hini 8 5 rfl rfl (by decide) (by decide) (iw iT_8) tyX8_ok nmX8 rfl rfl (tw W_251) rfl rfl k48 dX8_init_52 ?_
  refine j_nmZ (fun Z49 eZ49 => ?_)
  have h := h Z49 eZ49
  have yZ49 : jext Z45 Z49 := by rw [eZ49]; exact jext_putr
  have k50 := (yZ49 _ _ k48).1
  have hx : jext Z Z49 := jext_trans hx yZ49
  refine j_aload_n E dX8_init_55 0 rfl ?_
  refine j_new E 3 rfl rfl (by decide) (iw iT_3) tyX3_ok (by decide) (tw W_974) (tw W_975) (tw W_179) (by decide) (by decide) dX8_init_56 (fun q51 nq51 => ?_)
  refine j_nmZ (fun Z52 eZ52 => ?_)
  refine j_nmI (fun I53 eI53 => ?_)
  refine j_nmL (fun L54 eL54 => ?_)
  have h := h q51 nq51 Z52 eZ52 I53 eI53 L54 eL54
  have yZ52 : jext Z49 Z52 := by rw [eZ52]; exact jext_nw nq51
  have kq51 : jk Z52 q51 3 := by rw [eZ52]; exact jk_nw
  have lq51 : jlen Z52 q51 = 0 := by rw [eZ52]; exact jlen_nw
  have k55 := (yZ52 _ _ k50).1
  have hx : jext Z Z52 := jext_trans hx yZ52
  refine j_dup E dX8_init_59 rfl ?_
  refine j_callIN E [] [.ref q51, .ref v0] (c_X3_init (gL G) (gD G) (gY G) q51 Z52 I53 L54 _ kq51 h) (gwN W_976) rfl (nm_X3_init_X8_36) (tw W_179) (tw W_977) rfl fy_X3_init ⟨by decide, by decide⟩ rfl rfl (Nat.le_of_ble_eq_true rfl) ⟨by decide, by decide⟩ dX8_init_60 (fun v56 Z57 I58 L59 q60 => ?_)
  obtain ⟨yZ57, rfl, h⟩ := q60
  have k61 := (yZ57 _ _ k55).1
  have k62 := (yZ57 _ _ kq51).1
  have l63 := (yZ57 _ _ kq51).2.trans lq51
  have hx : jext Z Z57 := jext_trans hx yZ57
  show jJ G 1 63 [(0, .ref v0)] [.ref q51, .ref v0] Z57 I58 L59 _ _
  refine j_putrF E hini 8 6 rfl rfl (by decide) (by decide) (iw iT_8) tyX8_ok nmX8 rfl rfl (tw W_281) rfl rfl k61 dX8_init_63 ?_
  refine j_nmZ (fun Z64 eZ64 => ?_)
  have h := h Z64 eZ64
  have yZ64 : jext Z57 Z64 := by rw [eZ64]; exact jext_putr
  have k65 := (yZ64 _ _ k61).1
  have hx : jext Z Z64 := jext_trans hx yZ64
  refine j_aload_n E dX8_init_66 0 rfl ?_
  refine j_new E 3 rfl rfl (by decide) (iw iT_3) tyX3_ok (by decide) (tw W_974) (tw W_975) (tw W_179) (by decide) (by decide) dX8_init_67 (fun q66 nq66 => ?_)
  refine j_nmZ (fun Z67 eZ67 => ?_)
  refine j_nmI (fun I68 eI68 => ?_)
  refine j_nmL (fun L69 eL69 => ?_)
  have h := h q66 nq66 Z67 eZ67 I68 eI68 L69 eL69
  have yZ67 : jext Z64 Z67 := by rw [eZ67]; exact jext_nw nq66
  have kq66 : jk Z67 q66 3 := by rw [eZ67]; exact jk_nw
  have lq66 : jlen Z67 q66 = 0 := by rw [eZ67]; exact jlen_nw
  have k70 := (yZ67 _ _ k65).1
  have hx : jext Z Z67 := jext_trans hx yZ67
  refine j_dup E dX8_init_70 rfl ?_
  refine j_callIN E [] [.ref q66, .ref v0] (c_X3_init (gL G) (gD G) (gY G) q66 Z67 I68 L69 _ kq66 h) (gwN W_976) rfl (nm_X3_init_X8_36) (tw W_179) (tw W_977) rfl fy_X3_init ⟨by decide, by decide⟩ rfl rfl (Nat.le_of_ble_eq_true rfl) ⟨by decide, by decide⟩ dX8_init_71 (fun v71 Z72 I73 L74 q75 => ?_)
  obtain ⟨yZ72, rfl, h⟩ := q75
  have k76 := (yZ72 _ _ k70).1
  have k77 := (yZ72 _ _ kq66).1
  have l78 := (yZ72 _ _ kq66).2.trans lq66
  have hx : jext Z Z72 := jext_trans hx yZ72
  show jJ G 1 74 [(0, .ref v0)] [.ref q66, .ref v0] Z72 I73 L74 _ _
  refine j_putrF E hini 8 7 rfl rfl (by decide) (by decide) (iw iT_8) tyX8_ok nmX8 rfl rfl (tw W_280) rfl rfl k76 dX8_init_74 ?_
  refine j_nmZ (fun Z79 eZ79 => ?_)
  have h := h Z79 eZ79
  have yZ79 : jext Z72 Z79 := by rw [eZ79]; exact jext_putr
  have k80 := (yZ79 _ _ k76).1
  have hx : jext Z Z79 := jext_trans hx yZ79
  refine j_aload_n E dX8_init_77 0 rfl ?_
  refine j_bipush E (v := 7) dX8_init_78 (by decide) ?_
  refine j_newaI E 7 (by decide) (by decide) (by decide) (tw W_966) (by decide) (by decide) dX8_init_80 (fun q81 nq81 => ?_)
  refine j_nmZ (fun Z82 eZ82 => ?_)
  refine j_nmI (fun I83 eI83 => ?_)
  refine j_nmL (fun L84 eL84 => ?_)
  have h := h q81 nq81 Z82 eZ82 I83 eI83 L84 eL84
  have yZ82 : jext Z79 Z82 := by rw [eZ82]; exact jext_nw nq81
  have kq81 : jk Z82 q81 14 := by rw [eZ82]; exact jk_nw
  have lq81 : jlen Z82 q81 = 7 := by rw [eZ82]; exact jlen_nw
  have k85 := (yZ82 _ _ k80).1
  have hx : jext Z Z82 := jext_trans hx yZ82
  refine j_putrF E hini 8 8 rfl rfl (by decide) (by decide) (iw iT_8) tyX8_ok nmX8 rfl rfl (tw W_252) rfl rfl k85 dX8_init_82 ?_
  refine j_nmZ (fun Z86 eZ86 => ?_)
  have h := h Z86 eZ86
  have yZ86 : jext Z82 Z86 := by rw [eZ86]; exact jext_putr
  have k87 := (yZ86 _ _ k85).1
  have hx : jext Z Z86 := jext_trans hx yZ86
  refine j_aload_n E dX8_init_85 0 rfl ?_
  refine j_iconst E (v := 0) dX8_init_86 (by decide) ?_
  refine j_puti E 8 9 rfl rfl (by decide) (by decide) (iw iT_8) tyX8_ok nmX8 rfl rfl (tw W_250) rfl rfl rfl k87 dX8_init_87 ?_
  refine j_nmI (fun I88 eI88 => ?_)
  have h := h I88 eI88
  exact j_return E ⟨hx, rfl, h⟩ (by decide) (by decide) dX8_init_90
set_option maxRecDepth 100000 in
def f_X7_init (v0 : Nat) (Z : jZ) (I : jI) (L : jL) (Q : jZ → jI → jL → Prop) : Prop := (∀ q1 : Nat, q1 ∉ Z.1 → ∀ Z2 : jZ, Z2 = jnw Z q1 15 64 → ∀ I3 : jI, I3 = jz0 I q1 → ∀ L4 : jL, L4 = jzL L q1 → (∀ Z6 : jZ, Z6 = jpR Z2 v0 0 (some q1) → (∀ q8 : Nat, q8 ∉ Z6.1 → ∀ Z9 : jZ, Z9 = jnw Z6 q8 14 25 → ∀ I10 : jI, I10 = jz0 I3 q8 → ∀ L11 : jL, L11 = jzL L4 q8 → (∀ Z13 : jZ, Z13 = jpR Z9 v0 1 (some q8) → (∀ q15 : Nat, q15 ∉ Z13.1 → ∀ Z16 : jZ, Z16 = jnw Z13 q15 14 25 → ∀ I17 : jI, I17 = jz0 I10 q15 → ∀ L18 : jL, L18 = jzL L11 q15 → (∀ Z20 : jZ, Z20 = jpR Z16 v0 2 (some q15) → (∀ I22 : jI, I22 = jpI I17 v0 3 (0 : Int32) → (∀ q23 : Nat, q23 ∉ Z20.1 → ∀ Z24 : jZ, Z24 = jnw Z20 q23 14 3 → ∀ I25 : jI, I25 = jz0 I22 q23 → ∀ L26 : jL, L26 = jzL L18 q23 → (∀ Z28 : jZ, Z28 = jpR Z24 v0 4 (some q23) → (∀ q30 : Nat, q30 ∉ Z28.1 → ∀ Z31 : jZ, Z31 = jnw Z28 q30 14 3 → ∀ I32 : jI, I32 = jz0 I25 q30 → ∀ L33 : jL, L33 = jzL L26 q30 → (∀ Z35 : jZ, Z35 = jpR Z31 v0 5 (some q30) → (∀ q37 : Nat, q37 ∉ Z35.1 → ∀ Z38 : jZ, Z38 = jnw Z35 q37 15 3 → ∀ I39 : jI, I39 = jz0 I32 q37 → ∀ L40 : jL, L40 = jzL L33 q37 → (∀ Z42 : jZ, Z42 = jpR Z38 v0 6 (some q37) → (∀ q44 : Nat, q44 ∉ Z42.1 → ∀ Z45 : jZ, Z45 = jnw Z42 q44 15 3 → ∀ I46 : jI, I46 = jz0 I39 q44 → ∀ L47 : jL, L47 = jzL L40 q44 → (∀ Z49 : jZ, Z49 = jpR Z45 v0 7 (some q44) → (∀ I51 : jI, I51 = jpI I46 v0 8 (0 : Int32) → (∀ I52 : jI, I52 = jpI I51 v0 9 (0 : Int32) → Q Z49 I52 L47)))))))))))))))))
set_option maxHeartbeats 4000000 in
set_option maxRecDepth 100000 in
theorem c_X7_init (l : Launch) (D : va_G) (cy : jC) (v0 : Nat) (Z : jZ) (I : jI) (L : jL) (Q : jZ → jI → jL → Prop) (kv0 : jk Z v0 7) (h : f_X7_init v0 Z I L Q) : jCt l yX7_init w_X7_init { frames := 1, cells := 7, slots := 126, locals := 20 } D cy [.ref v0] Z I L (rtN Z Q) := by
  refine jCt_ofI (cc := cX7_init) (maxL := 1) (ret := none) (by decide +kernel) rfl (Nat.le_of_ble_eq_true rfl) ?_
  intro G eD eY eL hini E
  subst eD; subst eY; subst eL
  have E : jE G cX7_init RX7 w_X7_init 1 none { frames := 1, cells := 7, slots := 126, locals := 20 } (rtN Z Q) := E
  have hx : jext Z Z := jext_rfl
  show jJ G 1 0 [(0, .ref v0)] [] Z I L 0 0
  refine j_aload_n E dX7_init_0 0 rfl ?_
  refine j_objinit E (tw W_978) (tw W_962) (tw W_963) (by decide) (Nat.le_of_ble_eq_true rfl) dX7_init_1 ?_
  refine j_aload_n E dX7_init_4 0 rfl ?_
  refine j_bipush E (v := 64) dX7_init_5 (by decide) ?_
  refine j_newaJ E 64 (by decide) (by decide) (by decide) (tw W_5) (by decide) (by decide) dX7_init_7 (fun q1 nq1 => ?_)
  refine j_nmZ (fun Z2 eZ2 => ?_)
  refine j_nmI (fun I3 eI3 => ?_)
  refine j_nmL (fun L4 eL4 => ?_)
  have h := h q1 nq1 Z2 eZ2 I3 eI3 L4 eL4
  have yZ2 : jext Z Z2 := by rw [eZ2]; exact jext_nw nq1
  have kq1 : jk Z2 q1 15 := by rw [eZ2]; exact jk_nw
  have lq1 : jlen Z2 q1 = 64 := by rw [eZ2]; exact jlen_nw
  have k5 := (yZ2 _ _ kv0).1
  have hx : jext Z Z2 := jext_trans hx yZ2
  refine j_putr E 7 0 rfl rfl (by decide) (by decide) (iw iT_7) tyX7_ok nmX7 rfl rfl (tw W_14) rfl k5 dX7_init_9 ?_
  refine j_nmZ (fun Z6 eZ6 => ?_)
  have h := h Z6 eZ6
  have yZ6 : jext Z2 Z6 := by rw [eZ6]; exact jext_putr
  have k7 := (yZ6 _ _ k5).1
  have hx : jext Z Z6 := jext_trans hx yZ6
  refine j_aload_n E dX7_init_12 0 rfl ?_
  refine j_bipush E (v := 25) dX7_init_13 (by decide) ?_
  refine j_newaI E 25 (by decide) (by decide) (by decide) (tw W_966) (by decide) (by decide) dX7_init_15 (fun q8 nq8 => ?_)
  refine j_nmZ (fun Z9 eZ9 => ?_)
  refine j_nmI (fun I10 eI10 => ?_)
  refine j_nmL (fun L11 eL11 => ?_)
  have h := h q8 nq8 Z9 eZ9 I10 eI10 L11 eL11
  have yZ9 : jext Z6 Z9 := by rw [eZ9]; exact jext_nw nq8
  have kq8 : jk Z9 q8 14 := by rw [eZ9]; exact jk_nw
  have lq8 : jlen Z9 q8 = 25 := by rw [eZ9]; exact jlen_nw
  have k12 := (yZ9 _ _ k7).1
  have hx : jext Z Z9 := jext_trans hx yZ9
  refine j_putrF E hini 7 1 rfl rfl (by decide) (by decide) (iw iT_7) tyX7_ok nmX7 rfl rfl (tw W_2) rfl rfl k12 dX7_init_17 ?_
  refine j_nmZ (fun Z13 eZ13 => ?_)
  have h := h Z13 eZ13
  have yZ13 : jext Z9 Z13 := by rw [eZ13]; exact jext_putr
  have k14 := (yZ13 _ _ k12).1
  have hx : jext Z Z13 := jext_trans hx yZ13
  refine j_aload_n E dX7_init_20 0 rfl ?_
  refine j_bipush E (v := 25) dX7_init_21 (by decide) ?_
  refine j_newaI E 25 (by decide) (by decide) (by decide) (tw W_966) (by decide) (by decide) dX7_init_23 (fun q15 nq15 => ?_)
  refine j_nmZ (fun Z16 eZ16 => ?_)
  refine j_nmI (fun I17 eI17 => ?_)
  refine j_nmL (fun L18 eL18 => ?_)
  have h := h q15 nq15 Z16 eZ16 I17 eI17 L18 eL18
  have yZ16 : jext Z13 Z16 := by rw [eZ16]; exact jext_nw nq15
  have kq15 : jk Z16 q15 14 := by rw [eZ16]; exact jk_nw
  have lq15 : jlen Z16 q15 = 25 := by rw [eZ16]; exact jlen_nw
  have k19 := (yZ16 _ _ k14).1
  have hx : jext Z Z16 := jext_trans hx yZ16
  refine j_putrF E hini 7 2 rfl rfl (by decide) (by decide) (iw iT_7) tyX7_ok nmX7 rfl rfl (tw W_4) rfl rfl k19 dX7_init_25 ?_
  refine j_nmZ (fun Z20 eZ20 => ?_)
  have h := h Z20 eZ20
  have yZ20 : jext Z16 Z20 := by rw [eZ20]; exact jext_putr
  have k21 := (yZ20 _ _ k19).1
  have hx : jext Z Z20 := jext_trans hx yZ20
  refine j_aload_n E dX7_init_28 0 rfl ?_
  refine j_iconst E (v := 0) dX7_init_29 (by decide) ?_
  refine j_puti E 7 3 rfl rfl (by decide) (by decide) (iw iT_7) tyX7_ok nmX7 rfl rfl (tw W_3) rfl rfl rfl k21 dX7_init_30 ?_
  refine j_nmI (fun I22 eI22 => ?_)
  have h := h I22 eI22
  refine j_aload_n E dX7_init_33 0 rfl ?_
  refine j_iconst E (v := 3) dX7_init_34 (by decide) ?_
  refine j_newaI E 3 (by decide) (by decide) (by decide) (tw W_966) (by decide) (by decide) dX7_init_35 (fun q23 nq23 => ?_)
  refine j_nmZ (fun Z24 eZ24 => ?_)
  refine j_nmI (fun I25 eI25 => ?_)
  refine j_nmL (fun L26 eL26 => ?_)
  have h := h q23 nq23 Z24 eZ24 I25 eI25 L26 eL26
  have yZ24 : jext Z20 Z24 := by rw [eZ24]; exact jext_nw nq23
  have kq23 : jk Z24 q23 14 := by rw [eZ24]; exact jk_nw
  have lq23 : jlen Z24 q23 = 3 := by rw [eZ24]; exact jlen_nw
  have k27 := (yZ24 _ _ k21).1
  have hx : jext Z Z24 := jext_trans hx yZ24
  refine j_putrF E hini 7 4 rfl rfl (by decide) (by decide) (iw iT_7) tyX7_ok nmX7 rfl rfl (tw W_46) rfl rfl k27 dX7_init_37 ?_
  refine j_nmZ (fun Z28 eZ28 => ?_)
  have h := h Z28 eZ28
  have yZ28 : jext Z24 Z28 := by rw [eZ28]; exact jext_putr
  have k29 := (yZ28 _ _ k27).1
  have hx : jext Z Z28 := jext_trans hx yZ28
  refine j_aload_n E dX7_init_40 0 rfl ?_
  refine j_iconst E (v := 3) dX7_init_41 (by decide) ?_
  refine j_newaI E 3 (by decide) (by decide) (by decide) (tw W_966) (by decide) (by decide) dX7_init_42 (fun q30 nq30 => ?_)
  refine j_nmZ (fun Z31 eZ31 => ?_)
  refine j_nmI (fun I32 eI32 => ?_)
  refine j_nmL (fun L33 eL33 => ?_)
  have h := h q30 nq30 Z31 eZ31 I32 eI32 L33 eL33
  have yZ31 : jext Z28 Z31 := by rw [eZ31]; exact jext_nw nq30
  have kq30 : jk Z31 q30 14 := by rw [eZ31]; exact jk_nw
  have lq30 : jlen Z31 q30 = 3 := by rw [eZ31]; exact jlen_nw
  have k34 := (yZ31 _ _ k29).1
  have hx : jext Z Z31 := jext_trans hx yZ31
  refine j_putrF E hini 7 5 rfl rfl (by decide) (by decide) (iw iT_7) tyX7_ok nmX7 rfl rfl (tw W_47) rfl rfl k34 dX7_init_44 ?_
  refine j_nmZ (fun Z35 eZ35 => ?_)
  have h := h Z35 eZ35
  have yZ35 : jext Z31 Z35 := by rw [eZ35]; exact jext_putr
  have k36 := (yZ35 _ _ k34).1
  have hx : jext Z Z35 := jext_trans hx yZ35
  refine j_aload_n E dX7_init_47 0 rfl ?_
  refine j_iconst E (v := 3) dX7_init_48 (by decide) ?_
  refine j_newaJ E 3 (by decide) (by decide) (by decide) (tw W_5) (by decide) (by decide) dX7_init_49 (fun q37 nq37 => ?_)
  refine j_nmZ (fun Z38 eZ38 => ?_)
  refine j_nmI (fun I39 eI39 => ?_)
  refine j_nmL (fun L40 eL40 => ?_)
  have h := h q37 nq37 Z38 eZ38 I39 eI39 L40 eL40
  have yZ38 : jext Z35 Z38 := by rw [eZ38]; exact jext_nw nq37
  have kq37 : jk Z38 q37 15 := by rw [eZ38]; exact jk_nw
  have lq37 : jlen Z38 q37 = 3 := by rw [eZ38]; exact jlen_nw
  have k41 := (yZ38 _ _ k36).1
  have hx : jext Z Z38 := jext_trans hx yZ38
  refine j_putrF E hini 7 6 rfl rfl (by decide) (by decide) (iw iT_7) tyX7_ok nmX7 rfl rfl (tw W_48) rfl rfl k41 dX7_init_51 ?_
  refine j_nmZ (fun Z42 eZ42 => ?_)
  have h := h Z42 eZ42
  have yZ42 : jext Z38 Z42 := by rw [eZ42]; exact jext_putr
  have k43 := (yZ42 _ _ k41).1
  have hx : jext Z Z42 := jext_trans hx yZ42
  refine j_aload_n E dX7_init_54 0 rfl ?_
  refine j_iconst E (v := 3) dX7_init_55 (by decide) ?_
  refine j_newaJ E 3 (by decide) (by decide) (by decide) (tw W_5) (by decide) (by decide) dX7_init_56 (fun q44 nq44 => ?_)
  refine j_nmZ (fun Z45 eZ45 => ?_)
  refine j_nmI (fun I46 eI46 => ?_)
  refine j_nmL (fun L47 eL47 => ?_)
  have h := h q44 nq44 Z45 eZ45 I46 eI46 L47 eL47
  have yZ45 : jext Z42 Z45 := by rw [eZ45]; exact jext_nw nq44
  have kq44 : jk Z45 q44 15 := by rw [eZ45]; exact jk_nw
  have lq44 : jlen Z45 q44 = 3 := by rw [eZ45]; exact jlen_nw
  have k48 := (yZ45 _ _ k43).1
  have hx : jext Z Z45 := jext_trans hx yZ45
  refine j_putrF E hini 7 7 rfl rfl (by decide) (by decide) (iw iT_7) tyX7_ok nmX7 rfl rfl (tw W_49) rfl rfl k48 dX7_init_58 ?_
  refine j_nmZ (fun Z49 eZ49 => ?_)
  have h := h Z49 eZ49
  have yZ49 : jext Z45 Z49 := by rw [eZ49]; exact jext_putr
  have k50 := (yZ49 _ _ k48).1
  have hx : jext Z Z49 := jext_trans hx yZ49
  refine j_aload_n E dX7_init_61 0 rfl ?_
  refine j_iconst E (v := 0) dX7_init_62 (by decide) ?_
  refine j_puti E 7 8 rfl rfl (by decide) (by decide) (iw iT_7) tyX7_ok nmX7 rfl rfl (tw W_0) rfl rfl rfl k50 dX7_init_63 ?_
  refine j_nmI (fun I51 eI51 => ?_)
  have h := h I51 eI51
  refine j_aload_n E dX7_init_66 0 rfl ?_
  refine j_iconst E (v := 0) dX7_init_67 (by decide) ?_
  refine j_puti E 7 9 rfl rfl (by decide) (by decide) (iw iT_7) tyX7_ok nmX7 rfl rfl (tw W_1) rfl rfl rfl k50 dX7_init_68 ?_
  refine j_nmI (fun I52 eI52 => ?_)
  have h := h I52 eI52
  exact j_return E ⟨hx, rfl, h⟩ (by decide) (by decide) dX7_init_71
set_option maxRecDepth 100000 in
def f_X0_init (v0 : Nat) (Z : jZ) (I : jI) (L : jL) (Q : jZ → jI → jL → Prop) : Prop := (∀ q1 : Nat, q1 ∉ Z.1 → ∀ Z2 : jZ, Z2 = jnw Z q1 7 0 → ∀ I3 : jI, I3 = jz0 I q1 → ∀ L4 : jL, L4 = jzL L q1 → (f_X7_init q1 Z2 I3 L4 (fun Z7 I8 L9 => (∀ Z14 : jZ, Z14 = jpR Z7 v0 0 (some q1) → (∀ q16 : Nat, q16 ∉ Z14.1 → ∀ Z17 : jZ, Z17 = jnw Z14 q16 15 400 → ∀ I18 : jI, I18 = jz0 I8 q16 → ∀ L19 : jL, L19 = jzL L9 q16 → (∀ Z21 : jZ, Z21 = jpR Z17 v0 1 (some q16) → (∀ L23 : jL, L23 = jpL L19 v0 2 (0 : Int64) → Q Z21 I18 L23)))))))
set_option maxHeartbeats 4000000 in
set_option maxRecDepth 100000 in
theorem c_X0_init (l : Launch) (D : va_G) (cy : jC) (v0 : Nat) (Z : jZ) (I : jI) (L : jL) (Q : jZ → jI → jL → Prop) (kv0 : jk Z v0 0) (h : f_X0_init v0 Z I L Q) : jCt l yX0_init w_X0_init { frames := 2, cells := 9, slots := 536, locals := 40 } D cy [.ref v0] Z I L (rtN Z Q) := by
  refine jCt_ofI (cc := cX0_init) (maxL := 1) (ret := none) (by decide +kernel) rfl (Nat.le_of_ble_eq_true rfl) ?_
  intro G eD eY eL hini E
  subst eD; subst eY; subst eL
  have E : jE G cX0_init RX0 w_X0_init 1 none { frames := 2, cells := 9, slots := 536, locals := 40 } (rtN Z Q) := E
  have hx : jext Z Z := jext_rfl
  show jJ G 1 0 [(0, .ref v0)] [] Z I L 0 0
  refine j_aload_n E dX0_init_0 0 rfl ?_
  refine j_objinit E (tw W_979) (tw W_962) (tw W_963) (by decide) (Nat.le_of_ble_eq_true rfl) dX0_init_1 ?_
  refine j_aload_n E dX0_init_4 0 rfl ?_
  refine j_new E 7 rfl rfl (by decide) (iw iT_7) tyX7_ok (by decide) (tw W_980) (tw W_981) (tw W_24) (by decide) (by decide) dX0_init_5 (fun q1 nq1 => ?_)
  refine j_nmZ (fun Z2 eZ2 => ?_)
  refine j_nmI (fun I3 eI3 => ?_)
  refine j_nmL (fun L4 eL4 => ?_)
  have h := h q1 nq1 Z2 eZ2 I3 eI3 L4 eL4
  have yZ2 : jext Z Z2 := by rw [eZ2]; exact jext_nw nq1
  have kq1 : jk Z2 q1 7 := by rw [eZ2]; exact jk_nw
  have lq1 : jlen Z2 q1 = 0 := by rw [eZ2]; exact jlen_nw
  have k5 := (yZ2 _ _ kv0).1
  have hx : jext Z Z2 := jext_trans hx yZ2
  refine j_dup E dX0_init_8 rfl ?_
  refine j_callIN E [] [.ref q1, .ref v0] (c_X7_init (gL G) (gD G) (gY G) q1 Z2 I3 L4 _ kq1 h) (gwN W_982) rfl (nm_X7_init_X0_11) (tw W_24) (tw W_983) rfl fy_X7_init ⟨by decide, by decide⟩ rfl rfl (Nat.le_of_ble_eq_true rfl) ⟨by decide, by decide⟩ dX0_init_9 (fun v6 Z7 I8 L9 q10 => ?_)
  obtain ⟨yZ7, rfl, h⟩ := q10
  have k11 := (yZ7 _ _ k5).1
  have k12 := (yZ7 _ _ kq1).1
  have l13 := (yZ7 _ _ kq1).2.trans lq1
  have hx : jext Z Z7 := jext_trans hx yZ7
  show jJ G 1 12 [(0, .ref v0)] [.ref q1, .ref v0] Z7 I8 L9 _ _
  refine j_putrF E hini 0 0 rfl rfl (by decide) (by decide) (iw iT_0) tyX0_ok nmX0 rfl rfl (tw W_70) rfl rfl k11 dX0_init_12 ?_
  refine j_nmZ (fun Z14 eZ14 => ?_)
  have h := h Z14 eZ14
  have yZ14 : jext Z7 Z14 := by rw [eZ14]; exact jext_putr
  have k15 := (yZ14 _ _ k11).1
  have hx : jext Z Z14 := jext_trans hx yZ14
  refine j_aload_n E dX0_init_15 0 rfl ?_
  refine j_sipush E (v := 400) dX0_init_16 (by decide) ?_
  refine j_newaJ E 400 (by decide) (by decide) (by decide) (tw W_5) (by decide) (by decide) dX0_init_19 (fun q16 nq16 => ?_)
  refine j_nmZ (fun Z17 eZ17 => ?_)
  refine j_nmI (fun I18 eI18 => ?_)
  refine j_nmL (fun L19 eL19 => ?_)
  have h := h q16 nq16 Z17 eZ17 I18 eI18 L19 eL19
  have yZ17 : jext Z14 Z17 := by rw [eZ17]; exact jext_nw nq16
  have kq16 : jk Z17 q16 15 := by rw [eZ17]; exact jk_nw
  have lq16 : jlen Z17 q16 = 400 := by rw [eZ17]; exact jlen_nw
  have k20 := (yZ17 _ _ k15).1
  have hx : jext Z Z17 := jext_trans hx yZ17
  refine j_putrF E hini 0 1 rfl rfl (by decide) (by decide) (iw iT_0) tyX0_ok nmX0 rfl rfl (tw W_96) rfl rfl k20 dX0_init_21 ?_
  refine j_nmZ (fun Z21 eZ21 => ?_)
  have h := h Z21 eZ21
  have yZ21 : jext Z17 Z21 := by rw [eZ21]; exact jext_putr
  have k22 := (yZ21 _ _ k20).1
  have hx : jext Z Z21 := jext_trans hx yZ21
  refine j_aload_n E dX0_init_24 0 rfl ?_
  refine j_lconst E (v := 0) dX0_init_25 (by decide) ?_
  refine j_putl E 0 2 rfl rfl (by decide) (by decide) (iw iT_0) tyX0_ok nmX0 rfl rfl (tw W_116) rfl k22 dX0_init_26 ?_
  refine j_nmL (fun L23 eL23 => ?_)
  have h := h L23 eL23
  exact j_return E ⟨hx, rfl, h⟩ (by decide) (by decide) dX0_init_29
set_option maxRecDepth 100000 in
def f_X1_init (v0 : Nat) (Z : jZ) (I : jI) (L : jL) (Q : jZ → jI → jL → Prop) : Prop := (∀ q1 : Nat, q1 ∉ Z.1 → ∀ Z2 : jZ, Z2 = jnw Z q1 16 6 → ∀ I3 : jI, I3 = jz0 I q1 → ∀ L4 : jL, L4 = jzL L q1 → (∀ Z6 : jZ, Z6 = jpR Z2 v0 0 (some q1) → (∀ q8 : Nat, q8 ∉ Z6.1 → ∀ Z9 : jZ, Z9 = jnw Z6 q8 15 6 → ∀ I10 : jI, I10 = jz0 I3 q8 → ∀ L11 : jL, L11 = jzL L4 q8 → (∀ Z13 : jZ, Z13 = jpR Z9 v0 1 (some q8) → (∀ q15 : Nat, q15 ∉ Z13.1 → ∀ Z16 : jZ, Z16 = jnw Z13 q15 14 6 → ∀ I17 : jI, I17 = jz0 I10 q15 → ∀ L18 : jL, L18 = jzL L11 q15 → (∀ Z20 : jZ, Z20 = jpR Z16 v0 2 (some q15) → (∀ q22 : Nat, q22 ∉ Z20.1 → ∀ Z23 : jZ, Z23 = jnw Z20 q22 14 6 → ∀ I24 : jI, I24 = jz0 I17 q22 → ∀ L25 : jL, L25 = jzL L18 q22 → (∀ Z27 : jZ, Z27 = jpR Z23 v0 3 (some q22) → (∀ q29 : Nat, q29 ∉ Z27.1 → ∀ Z30 : jZ, Z30 = jnw Z27 q29 14 24 → ∀ I31 : jI, I31 = jz0 I24 q29 → ∀ L32 : jL, L32 = jzL L25 q29 → (∀ Z34 : jZ, Z34 = jpR Z30 v0 4 (some q29) → (∀ q36 : Nat, q36 ∉ Z34.1 → ∀ Z37 : jZ, Z37 = jnw Z34 q36 14 24 → ∀ I38 : jI, I38 = jz0 I31 q36 → ∀ L39 : jL, L39 = jzL L32 q36 → (∀ Z41 : jZ, Z41 = jpR Z37 v0 5 (some q36) → (∀ I43 : jI, I43 = jpI I38 v0 6 (0 : Int32) → (∀ I44 : jI, I44 = jpI I43 v0 7 (0 : Int32) → (∀ I45 : jI, I45 = jpI I44 v0 8 (0 : Int32) → (∀ I46 : jI, I46 = jpI I45 v0 9 (0 : Int32) → Q Z41 I46 L39))))))))))))))))
set_option maxHeartbeats 4000000 in
set_option maxRecDepth 100000 in
theorem c_X1_init (l : Launch) (D : va_G) (cy : jC) (v0 : Nat) (Z : jZ) (I : jI) (L : jL) (Q : jZ → jI → jL → Prop) (kv0 : jk Z v0 1) (h : f_X1_init v0 Z I L Q) : jCt l yX1_init w_X1_init { frames := 1, cells := 6, slots := 72, locals := 20 } D cy [.ref v0] Z I L (rtN Z Q) := by
  refine jCt_ofI (cc := cX1_init) (maxL := 1) (ret := none) (by decide +kernel) rfl (Nat.le_of_ble_eq_true rfl) ?_
  intro G eD eY eL hini E
  subst eD; subst eY; subst eL
  have E : jE G cX1_init RX1 w_X1_init 1 none { frames := 1, cells := 6, slots := 72, locals := 20 } (rtN Z Q) := E
  have hx : jext Z Z := jext_rfl
  show jJ G 1 0 [(0, .ref v0)] [] Z I L 0 0
  refine j_aload_n E dX1_init_0 0 rfl ?_
  refine j_objinit E (tw W_984) (tw W_962) (tw W_963) (by decide) (Nat.le_of_ble_eq_true rfl) dX1_init_1 ?_
  refine j_aload_n E dX1_init_4 0 rfl ?_
  refine j_bipush E (v := 6) dX1_init_5 (by decide) ?_
  refine j_newaZ E 6 (by decide) (by decide) (by decide) (tw W_985) (by decide) (by decide) dX1_init_7 (fun q1 nq1 => ?_)
  refine j_nmZ (fun Z2 eZ2 => ?_)
  refine j_nmI (fun I3 eI3 => ?_)
  refine j_nmL (fun L4 eL4 => ?_)
  have h := h q1 nq1 Z2 eZ2 I3 eI3 L4 eL4
  have yZ2 : jext Z Z2 := by rw [eZ2]; exact jext_nw nq1
  have kq1 : jk Z2 q1 16 := by rw [eZ2]; exact jk_nw
  have lq1 : jlen Z2 q1 = 6 := by rw [eZ2]; exact jlen_nw
  have k5 := (yZ2 _ _ kv0).1
  have hx : jext Z Z2 := jext_trans hx yZ2
  refine j_putrF E hini 1 0 rfl rfl (by decide) (by decide) (iw iT_1) tyX1_ok nmX1 rfl rfl (tw W_126) rfl rfl k5 dX1_init_9 ?_
  refine j_nmZ (fun Z6 eZ6 => ?_)
  have h := h Z6 eZ6
  have yZ6 : jext Z2 Z6 := by rw [eZ6]; exact jext_putr
  have k7 := (yZ6 _ _ k5).1
  have hx : jext Z Z6 := jext_trans hx yZ6
  refine j_aload_n E dX1_init_12 0 rfl ?_
  refine j_bipush E (v := 6) dX1_init_13 (by decide) ?_
  refine j_newaJ E 6 (by decide) (by decide) (by decide) (tw W_5) (by decide) (by decide) dX1_init_15 (fun q8 nq8 => ?_)
  refine j_nmZ (fun Z9 eZ9 => ?_)
  refine j_nmI (fun I10 eI10 => ?_)
  refine j_nmL (fun L11 eL11 => ?_)
  have h := h q8 nq8 Z9 eZ9 I10 eI10 L11 eL11
  have yZ9 : jext Z6 Z9 := by rw [eZ9]; exact jext_nw nq8
  have kq8 : jk Z9 q8 15 := by rw [eZ9]; exact jk_nw
  have lq8 : jlen Z9 q8 = 6 := by rw [eZ9]; exact jlen_nw
  have k12 := (yZ9 _ _ k7).1
  have hx : jext Z Z9 := jext_trans hx yZ9
  refine j_putrF E hini 1 1 rfl rfl (by decide) (by decide) (iw iT_1) tyX1_ok nmX1 rfl rfl (tw W_137) rfl rfl k12 dX1_init_17 ?_
  refine j_nmZ (fun Z13 eZ13 => ?_)
  have h := h Z13 eZ13
  have yZ13 : jext Z9 Z13 := by rw [eZ13]; exact jext_putr
  have k14 := (yZ13 _ _ k12).1
  have hx : jext Z Z13 := jext_trans hx yZ13
  refine j_aload_n E dX1_init_20 0 rfl ?_
  refine j_bipush E (v := 6) dX1_init_21 (by decide) ?_
  refine j_newaI E 6 (by decide) (by decide) (by decide) (tw W_966) (by decide) (by decide) dX1_init_23 (fun q15 nq15 => ?_)
  refine j_nmZ (fun Z16 eZ16 => ?_)
  refine j_nmI (fun I17 eI17 => ?_)
  refine j_nmL (fun L18 eL18 => ?_)
  have h := h q15 nq15 Z16 eZ16 I17 eI17 L18 eL18
  have yZ16 : jext Z13 Z16 := by rw [eZ16]; exact jext_nw nq15
  have kq15 : jk Z16 q15 14 := by rw [eZ16]; exact jk_nw
  have lq15 : jlen Z16 q15 = 6 := by rw [eZ16]; exact jlen_nw
  have k19 := (yZ16 _ _ k14).1
  have hx : jext Z Z16 := jext_trans hx yZ16
  refine j_putrF E hini 1 2 rfl rfl (by decide) (by decide) (iw iT_1) tyX1_ok nmX1 rfl rfl (tw W_127) rfl rfl k19 dX1_init_25 ?_
  refine j_nmZ (fun Z20 eZ20 => ?_)
  have h := h Z20 eZ20
  have yZ20 : jext Z16 Z20 := by rw [eZ20]; exact jext_putr
  have k21 := (yZ20 _ _ k19).1
  have hx : jext Z Z20 := jext_trans hx yZ20
  refine j_aload_n E dX1_init_28 0 rfl ?_
  refine j_bipush E (v := 6) dX1_init_29 (by decide) ?_
  refine j_newaI E 6 (by decide) (by decide) (by decide) (tw W_966) (by decide) (by decide) dX1_init_31 (fun q22 nq22 => ?_)
  refine j_nmZ (fun Z23 eZ23 => ?_)
  refine j_nmI (fun I24 eI24 => ?_)
  refine j_nmL (fun L25 eL25 => ?_)
  have h := h q22 nq22 Z23 eZ23 I24 eI24 L25 eL25
  have yZ23 : jext Z20 Z23 := by rw [eZ23]; exact jext_nw nq22
  have kq22 : jk Z23 q22 14 := by rw [eZ23]; exact jk_nw
  have lq22 : jlen Z23 q22 = 6 := by rw [eZ23]; exact jlen_nw
  have k26 := (yZ23 _ _ k21).1
  have hx : jext Z Z23 := jext_trans hx yZ23
  refine j_putrF E hini 1 3 rfl rfl (by decide) (by decide) (iw iT_1) tyX1_ok nmX1 rfl rfl (tw W_128) rfl rfl k26 dX1_init_33 ?_
  refine j_nmZ (fun Z27 eZ27 => ?_)
  have h := h Z27 eZ27
  have yZ27 : jext Z23 Z27 := by rw [eZ27]; exact jext_putr
  have k28 := (yZ27 _ _ k26).1
  have hx : jext Z Z27 := jext_trans hx yZ27
  refine j_aload_n E dX1_init_36 0 rfl ?_
  refine j_bipush E (v := 24) dX1_init_37 (by decide) ?_
  refine j_newaI E 24 (by decide) (by decide) (by decide) (tw W_966) (by decide) (by decide) dX1_init_39 (fun q29 nq29 => ?_)
  refine j_nmZ (fun Z30 eZ30 => ?_)
  refine j_nmI (fun I31 eI31 => ?_)
  refine j_nmL (fun L32 eL32 => ?_)
  have h := h q29 nq29 Z30 eZ30 I31 eI31 L32 eL32
  have yZ30 : jext Z27 Z30 := by rw [eZ30]; exact jext_nw nq29
  have kq29 : jk Z30 q29 14 := by rw [eZ30]; exact jk_nw
  have lq29 : jlen Z30 q29 = 24 := by rw [eZ30]; exact jlen_nw
  have k33 := (yZ30 _ _ k28).1
  have hx : jext Z Z30 := jext_trans hx yZ30
  refine j_putrF E hini 1 4 rfl rfl (by decide) (by decide) (iw iT_1) tyX1_ok nmX1 rfl rfl (tw W_134) rfl rfl k33 dX1_init_41 ?_
  refine j_nmZ (fun Z34 eZ34 => ?_)
  have h := h Z34 eZ34
  have yZ34 : jext Z30 Z34 := by rw [eZ34]; exact jext_putr
  have k35 := (yZ34 _ _ k33).1
  have hx : jext Z Z34 := jext_trans hx yZ34
  refine j_aload_n E dX1_init_44 0 rfl ?_
  refine j_bipush E (v := 24) dX1_init_45 (by decide) ?_
  refine j_newaI E 24 (by decide) (by decide) (by decide) (tw W_966) (by decide) (by decide) dX1_init_47 (fun q36 nq36 => ?_)
  refine j_nmZ (fun Z37 eZ37 => ?_)
  refine j_nmI (fun I38 eI38 => ?_)
  refine j_nmL (fun L39 eL39 => ?_)
  have h := h q36 nq36 Z37 eZ37 I38 eI38 L39 eL39
  have yZ37 : jext Z34 Z37 := by rw [eZ37]; exact jext_nw nq36
  have kq36 : jk Z37 q36 14 := by rw [eZ37]; exact jk_nw
  have lq36 : jlen Z37 q36 = 24 := by rw [eZ37]; exact jlen_nw
  have k40 := (yZ37 _ _ k35).1
  have hx : jext Z Z37 := jext_trans hx yZ37
  refine j_putrF E hini 1 5 rfl rfl (by decide) (by decide) (iw iT_1) tyX1_ok nmX1 rfl rfl (tw W_136) rfl rfl k40 dX1_init_49 ?_
  refine j_nmZ (fun Z41 eZ41 => ?_)
  have h := h Z41 eZ41
  have yZ41 : jext Z37 Z41 := by rw [eZ41]; exact jext_putr
  have k42 := (yZ41 _ _ k40).1
  have hx : jext Z Z41 := jext_trans hx yZ41
  refine j_aload_n E dX1_init_52 0 rfl ?_
  refine j_iconst E (v := 0) dX1_init_53 (by decide) ?_
  refine j_puti E 1 6 rfl rfl (by decide) (by decide) (iw iT_1) tyX1_ok nmX1 rfl rfl (tw W_130) rfl rfl rfl k42 dX1_init_54 ?_
  refine j_nmI (fun I43 eI43 => ?_)
  have h := h I43 eI43
  refine j_aload_n E dX1_init_57 0 rfl ?_
  refine j_iconst E (v := 0) dX1_init_58 (by decide) ?_
  refine j_puti E 1 7 rfl rfl (by decide) (by decide) (iw iT_1) tyX1_ok nmX1 rfl rfl (tw W_131) rfl rfl rfl k42 dX1_init_59 ?_
  refine j_nmI (fun I44 eI44 => ?_)
  have h := h I44 eI44
  refine j_aload_n E dX1_init_62 0 rfl ?_
  refine j_iconst E (v := 0) dX1_init_63 (by decide) ?_
  refine j_puti E 1 8 rfl rfl (by decide) (by decide) (iw iT_1) tyX1_ok nmX1 rfl rfl (tw W_132) rfl rfl rfl k42 dX1_init_64 ?_
  refine j_nmI (fun I45 eI45 => ?_)
  have h := h I45 eI45
  refine j_aload_n E dX1_init_67 0 rfl ?_
  refine j_iconst E (v := 0) dX1_init_68 (by decide) ?_
  refine j_puti E 1 9 rfl rfl (by decide) (by decide) (iw iT_1) tyX1_ok nmX1 rfl rfl (tw W_133) rfl rfl rfl k42 dX1_init_69 ?_
  refine j_nmI (fun I46 eI46 => ?_)
  have h := h I46 eI46
  exact j_return E ⟨hx, rfl, h⟩ (by decide) (by decide) dX1_init_72
set_option maxRecDepth 100000 in
def f_X2_init (v0 : Nat) (Z : jZ) (I : jI) (L : jL) (Q : jZ → jI → jL → Prop) : Prop := (∀ q1 : Nat, q1 ∉ Z.1 → ∀ Z2 : jZ, Z2 = jnw Z q1 14 24 → ∀ I3 : jI, I3 = jz0 I q1 → ∀ L4 : jL, L4 = jzL L q1 → (∀ Z6 : jZ, Z6 = jpR Z2 v0 0 (some q1) → (∀ q8 : Nat, q8 ∉ Z6.1 → ∀ Z9 : jZ, Z9 = jnw Z6 q8 14 24 → ∀ I10 : jI, I10 = jz0 I3 q8 → ∀ L11 : jL, L11 = jzL L4 q8 → (∀ Z13 : jZ, Z13 = jpR Z9 v0 1 (some q8) → (∀ q15 : Nat, q15 ∉ Z13.1 → ∀ Z16 : jZ, Z16 = jnw Z13 q15 14 192 → ∀ I17 : jI, I17 = jz0 I10 q15 → ∀ L18 : jL, L18 = jzL L11 q15 → (∀ Z20 : jZ, Z20 = jpR Z16 v0 2 (some q15) → (∀ q22 : Nat, q22 ∉ Z20.1 → ∀ Z23 : jZ, Z23 = jnw Z20 q22 14 8 → ∀ I24 : jI, I24 = jz0 I17 q22 → ∀ L25 : jL, L25 = jzL L18 q22 → (∀ Z27 : jZ, Z27 = jpR Z23 v0 3 (some q22) → (∀ q29 : Nat, q29 ∉ Z27.1 → ∀ Z30 : jZ, Z30 = jnw Z27 q29 14 6 → ∀ I31 : jI, I31 = jz0 I24 q29 → ∀ L32 : jL, L32 = jzL L25 q29 → (∀ Z34 : jZ, Z34 = jpR Z30 v0 4 (some q29) → (∀ q36 : Nat, q36 ∉ Z34.1 → ∀ Z37 : jZ, Z37 = jnw Z34 q36 14 6 → ∀ I38 : jI, I38 = jz0 I31 q36 → ∀ L39 : jL, L39 = jzL L32 q36 → (∀ Z41 : jZ, Z41 = jpR Z37 v0 5 (some q36) → (∀ q43 : Nat, q43 ∉ Z41.1 → ∀ Z44 : jZ, Z44 = jnw Z41 q43 14 6 → ∀ I45 : jI, I45 = jz0 I38 q43 → ∀ L46 : jL, L46 = jzL L39 q43 → (∀ Z48 : jZ, Z48 = jpR Z44 v0 6 (some q43) → (∀ I50 : jI, I50 = jpI I45 v0 7 (0 : Int32) → (∀ I51 : jI, I51 = jpI I50 v0 8 (0 : Int32) → Q Z48 I51 L46))))))))))))))))
set_option maxHeartbeats 4000000 in
set_option maxRecDepth 100000 in
theorem c_X2_init (l : Launch) (D : va_G) (cy : jC) (v0 : Nat) (Z : jZ) (I : jI) (L : jL) (Q : jZ → jI → jL → Prop) (kv0 : jk Z v0 2) (h : f_X2_init v0 Z I L Q) : jCt l yX2_init w_X2_init { frames := 1, cells := 7, slots := 266, locals := 20 } D cy [.ref v0] Z I L (rtN Z Q) := by
  refine jCt_ofI (cc := cX2_init) (maxL := 1) (ret := none) (by decide +kernel) rfl (Nat.le_of_ble_eq_true rfl) ?_
  intro G eD eY eL hini E
  subst eD; subst eY; subst eL
  have E : jE G cX2_init RX2 w_X2_init 1 none { frames := 1, cells := 7, slots := 266, locals := 20 } (rtN Z Q) := E
  have hx : jext Z Z := jext_rfl
  show jJ G 1 0 [(0, .ref v0)] [] Z I L 0 0
  refine j_aload_n E dX2_init_0 0 rfl ?_
  refine j_objinit E (tw W_986) (tw W_962) (tw W_963) (by decide) (Nat.le_of_ble_eq_true rfl) dX2_init_1 ?_
  refine j_aload_n E dX2_init_4 0 rfl ?_
  refine j_bipush E (v := 24) dX2_init_5 (by decide) ?_
  refine j_newaI E 24 (by decide) (by decide) (by decide) (tw W_966) (by decide) (by decide) dX2_init_7 (fun q1 nq1 => ?_)
  refine j_nmZ (fun Z2 eZ2 => ?_)
  refine j_nmI (fun I3 eI3 => ?_)
  refine j_nmL (fun L4 eL4 => ?_)
  have h := h q1 nq1 Z2 eZ2 I3 eI3 L4 eL4
  have yZ2 : jext Z Z2 := by rw [eZ2]; exact jext_nw nq1
  have kq1 : jk Z2 q1 14 := by rw [eZ2]; exact jk_nw
  have lq1 : jlen Z2 q1 = 24 := by rw [eZ2]; exact jlen_nw
  have k5 := (yZ2 _ _ kv0).1
  have hx : jext Z Z2 := jext_trans hx yZ2
  refine j_putrF E hini 2 0 rfl rfl (by decide) (by decide) (iw iT_2) tyX2_ok nmX2 rfl rfl (tw W_153) rfl rfl k5 dX2_init_9 ?_
  refine j_nmZ (fun Z6 eZ6 => ?_)
  have h := h Z6 eZ6
  have yZ6 : jext Z2 Z6 := by rw [eZ6]; exact jext_putr
  have k7 := (yZ6 _ _ k5).1
  have hx : jext Z Z6 := jext_trans hx yZ6
  refine j_aload_n E dX2_init_12 0 rfl ?_
  refine j_bipush E (v := 24) dX2_init_13 (by decide) ?_
  refine j_newaI E 24 (by decide) (by decide) (by decide) (tw W_966) (by decide) (by decide) dX2_init_15 (fun q8 nq8 => ?_)
  refine j_nmZ (fun Z9 eZ9 => ?_)
  refine j_nmI (fun I10 eI10 => ?_)
  refine j_nmL (fun L11 eL11 => ?_)
  have h := h q8 nq8 Z9 eZ9 I10 eI10 L11 eL11
  have yZ9 : jext Z6 Z9 := by rw [eZ9]; exact jext_nw nq8
  have kq8 : jk Z9 q8 14 := by rw [eZ9]; exact jk_nw
  have lq8 : jlen Z9 q8 = 24 := by rw [eZ9]; exact jlen_nw
  have k12 := (yZ9 _ _ k7).1
  have hx : jext Z Z9 := jext_trans hx yZ9
  refine j_putrF E hini 2 1 rfl rfl (by decide) (by decide) (iw iT_2) tyX2_ok nmX2 rfl rfl (tw W_155) rfl rfl k12 dX2_init_17 ?_
  refine j_nmZ (fun Z13 eZ13 => ?_)
  have h := h Z13 eZ13
  have yZ13 : jext Z9 Z13 := by rw [eZ13]; exact jext_putr
  have k14 := (yZ13 _ _ k12).1
  have hx : jext Z Z13 := jext_trans hx yZ13
  refine j_aload_n E dX2_init_20 0 rfl ?_
  refine j_sipush E (v := 192) dX2_init_21 (by decide) ?_
  refine j_newaI E 192 (by decide) (by decide) (by decide) (tw W_966) (by decide) (by decide) dX2_init_24 (fun q15 nq15 => ?_)
  refine j_nmZ (fun Z16 eZ16 => ?_)
  refine j_nmI (fun I17 eI17 => ?_)
  refine j_nmL (fun L18 eL18 => ?_)
  have h := h q15 nq15 Z16 eZ16 I17 eI17 L18 eL18
  have yZ16 : jext Z13 Z16 := by rw [eZ16]; exact jext_nw nq15
  have kq15 : jk Z16 q15 14 := by rw [eZ16]; exact jk_nw
  have lq15 : jlen Z16 q15 = 192 := by rw [eZ16]; exact jlen_nw
  have k19 := (yZ16 _ _ k14).1
  have hx : jext Z Z16 := jext_trans hx yZ16
  refine j_putrF E hini 2 2 rfl rfl (by decide) (by decide) (iw iT_2) tyX2_ok nmX2 rfl rfl (tw W_156) rfl rfl k19 dX2_init_26 ?_
  refine j_nmZ (fun Z20 eZ20 => ?_)
  have h := h Z20 eZ20
  have yZ20 : jext Z16 Z20 := by rw [eZ20]; exact jext_putr
  have k21 := (yZ20 _ _ k19).1
  have hx : jext Z Z20 := jext_trans hx yZ20
  refine j_aload_n E dX2_init_29 0 rfl ?_
  refine j_bipush E (v := 8) dX2_init_30 (by decide) ?_
  refine j_newaI E 8 (by decide) (by decide) (by decide) (tw W_966) (by decide) (by decide) dX2_init_32 (fun q22 nq22 => ?_)
  refine j_nmZ (fun Z23 eZ23 => ?_)
  refine j_nmI (fun I24 eI24 => ?_)
  refine j_nmL (fun L25 eL25 => ?_)
  have h := h q22 nq22 Z23 eZ23 I24 eI24 L25 eL25
  have yZ23 : jext Z20 Z23 := by rw [eZ23]; exact jext_nw nq22
  have kq22 : jk Z23 q22 14 := by rw [eZ23]; exact jk_nw
  have lq22 : jlen Z23 q22 = 8 := by rw [eZ23]; exact jlen_nw
  have k26 := (yZ23 _ _ k21).1
  have hx : jext Z Z23 := jext_trans hx yZ23
  refine j_putrF E hini 2 3 rfl rfl (by decide) (by decide) (iw iT_2) tyX2_ok nmX2 rfl rfl (tw W_987) rfl rfl k26 dX2_init_34 ?_
  refine j_nmZ (fun Z27 eZ27 => ?_)
  have h := h Z27 eZ27
  have yZ27 : jext Z23 Z27 := by rw [eZ27]; exact jext_putr
  have k28 := (yZ27 _ _ k26).1
  have hx : jext Z Z27 := jext_trans hx yZ27
  refine j_aload_n E dX2_init_37 0 rfl ?_
  refine j_bipush E (v := 6) dX2_init_38 (by decide) ?_
  refine j_newaI E 6 (by decide) (by decide) (by decide) (tw W_966) (by decide) (by decide) dX2_init_40 (fun q29 nq29 => ?_)
  refine j_nmZ (fun Z30 eZ30 => ?_)
  refine j_nmI (fun I31 eI31 => ?_)
  refine j_nmL (fun L32 eL32 => ?_)
  have h := h q29 nq29 Z30 eZ30 I31 eI31 L32 eL32
  have yZ30 : jext Z27 Z30 := by rw [eZ30]; exact jext_nw nq29
  have kq29 : jk Z30 q29 14 := by rw [eZ30]; exact jk_nw
  have lq29 : jlen Z30 q29 = 6 := by rw [eZ30]; exact jlen_nw
  have k33 := (yZ30 _ _ k28).1
  have hx : jext Z Z30 := jext_trans hx yZ30
  refine j_putrF E hini 2 4 rfl rfl (by decide) (by decide) (iw iT_2) tyX2_ok nmX2 rfl rfl (tw W_174) rfl rfl k33 dX2_init_42 ?_
  refine j_nmZ (fun Z34 eZ34 => ?_)
  have h := h Z34 eZ34
  have yZ34 : jext Z30 Z34 := by rw [eZ34]; exact jext_putr
  have k35 := (yZ34 _ _ k33).1
  have hx : jext Z Z34 := jext_trans hx yZ34
  refine j_aload_n E dX2_init_45 0 rfl ?_
  refine j_bipush E (v := 6) dX2_init_46 (by decide) ?_
  refine j_newaI E 6 (by decide) (by decide) (by decide) (tw W_966) (by decide) (by decide) dX2_init_48 (fun q36 nq36 => ?_)
  refine j_nmZ (fun Z37 eZ37 => ?_)
  refine j_nmI (fun I38 eI38 => ?_)
  refine j_nmL (fun L39 eL39 => ?_)
  have h := h q36 nq36 Z37 eZ37 I38 eI38 L39 eL39
  have yZ37 : jext Z34 Z37 := by rw [eZ37]; exact jext_nw nq36
  have kq36 : jk Z37 q36 14 := by rw [eZ37]; exact jk_nw
  have lq36 : jlen Z37 q36 = 6 := by rw [eZ37]; exact jlen_nw
  have k40 := (yZ37 _ _ k35).1
  have hx : jext Z Z37 := jext_trans hx yZ37
  refine j_putrF E hini 2 5 rfl rfl (by decide) (by decide) (iw iT_2) tyX2_ok nmX2 rfl rfl (tw W_175) rfl rfl k40 dX2_init_50 ?_
  refine j_nmZ (fun Z41 eZ41 => ?_)
  have h := h Z41 eZ41
  have yZ41 : jext Z37 Z41 := by rw [eZ41]; exact jext_putr
  have k42 := (yZ41 _ _ k40).1
  have hx : jext Z Z41 := jext_trans hx yZ41
  refine j_aload_n E dX2_init_53 0 rfl ?_
  refine j_bipush E (v := 6) dX2_init_54 (by decide) ?_
  refine j_newaI E 6 (by decide) (by decide) (by decide) (tw W_966) (by decide) (by decide) dX2_init_56 (fun q43 nq43 => ?_)
  refine j_nmZ (fun Z44 eZ44 => ?_)
  refine j_nmI (fun I45 eI45 => ?_)
  refine j_nmL (fun L46 eL46 => ?_)
  have h := h q43 nq43 Z44 eZ44 I45 eI45 L46 eL46
  have yZ44 : jext Z41 Z44 := by rw [eZ44]; exact jext_nw nq43
  have kq43 : jk Z44 q43 14 := by rw [eZ44]; exact jk_nw
  have lq43 : jlen Z44 q43 = 6 := by rw [eZ44]; exact jlen_nw
  have k47 := (yZ44 _ _ k42).1
  have hx : jext Z Z44 := jext_trans hx yZ44
  refine j_putrF E hini 2 6 rfl rfl (by decide) (by decide) (iw iT_2) tyX2_ok nmX2 rfl rfl (tw W_176) rfl rfl k47 dX2_init_58 ?_
  refine j_nmZ (fun Z48 eZ48 => ?_)
  have h := h Z48 eZ48
  have yZ48 : jext Z44 Z48 := by rw [eZ48]; exact jext_putr
  have k49 := (yZ48 _ _ k47).1
  have hx : jext Z Z48 := jext_trans hx yZ48
  refine j_aload_n E dX2_init_61 0 rfl ?_
  refine j_iconst E (v := 0) dX2_init_62 (by decide) ?_
  refine j_puti E 2 7 rfl rfl (by decide) (by decide) (iw iT_2) tyX2_ok nmX2 rfl rfl (tw W_988) rfl rfl rfl k49 dX2_init_63 ?_
  refine j_nmI (fun I50 eI50 => ?_)
  have h := h I50 eI50
  refine j_aload_n E dX2_init_66 0 rfl ?_
  refine j_iconst E (v := 0) dX2_init_67 (by decide) ?_
  refine j_puti E 2 8 rfl rfl (by decide) (by decide) (iw iT_2) tyX2_ok nmX2 rfl rfl (tw W_989) rfl rfl rfl k49 dX2_init_68 ?_
  refine j_nmI (fun I51 eI51 => ?_)
  have h := h I51 eI51
  exact j_return E ⟨hx, rfl, h⟩ (by decide) (by decide) dX2_init_71
set_option maxRecDepth 100000 in
def f_X11_init (v0 : Nat) (Z : jZ) (I : jI) (L : jL) (Q : jZ → jI → jL → Prop) : Prop := (∀ q1 : Nat, q1 ∉ Z.1 → ∀ Z2 : jZ, Z2 = jnw Z q1 10 0 → ∀ I3 : jI, I3 = jz0 I q1 → ∀ L4 : jL, L4 = jzL L q1 → (f_X10_init q1 Z2 I3 L4 (fun Z7 I8 L9 => (∀ Z14 : jZ, Z14 = jpR Z7 v0 0 (some q1) → (∀ q16 : Nat, q16 ∉ Z14.1 → ∀ Z17 : jZ, Z17 = jnw Z14 q16 9 0 → ∀ I18 : jI, I18 = jz0 I8 q16 → ∀ L19 : jL, L19 = jzL L9 q16 → (f_X9_init q16 Z17 I18 L19 (fun Z22 I23 L24 => (∀ Z29 : jZ, Z29 = jpR Z22 v0 1 (some q16) → (∀ q31 : Nat, q31 ∉ Z29.1 → ∀ Z32 : jZ, Z32 = jnw Z29 q31 8 0 → ∀ I33 : jI, I33 = jz0 I23 q31 → ∀ L34 : jL, L34 = jzL L24 q31 → (f_X8_init q31 Z32 I33 L34 (fun Z37 I38 L39 => (∀ Z44 : jZ, Z44 = jpR Z37 v0 2 (some q31) → (∀ q46 : Nat, q46 ∉ Z44.1 → ∀ Z47 : jZ, Z47 = jnw Z44 q46 18 6 → ∀ I48 : jI, I48 = jz0 I38 q46 → ∀ L49 : jL, L49 = jzL L39 q46 → (∀ Z51 : jZ, Z51 = jpR Z47 v0 3 (some q46) → (∀ I53 : jI, I53 = jpI I48 v0 4 (0 : Int32) → (∀ q54 : Nat, q54 ∉ Z51.1 → ∀ Z55 : jZ, Z55 = jnw Z51 q54 14 8 → ∀ I56 : jI, I56 = jz0 I53 q54 → ∀ L57 : jL, L57 = jzL L49 q54 → (∀ Z59 : jZ, Z59 = jpR Z55 v0 5 (some q54) → (∀ q61 : Nat, q61 ∉ Z59.1 → ∀ Z62 : jZ, Z62 = jnw Z59 q61 14 8 → ∀ I63 : jI, I63 = jz0 I56 q61 → ∀ L64 : jL, L64 = jzL L57 q61 → (∀ Z66 : jZ, Z66 = jpR Z62 v0 6 (some q61) → (∀ q68 : Nat, q68 ∉ Z66.1 → ∀ Z69 : jZ, Z69 = jnw Z66 q68 14 8 → ∀ I70 : jI, I70 = jz0 I63 q68 → ∀ L71 : jL, L71 = jzL L64 q68 → (∀ Z73 : jZ, Z73 = jpR Z69 v0 7 (some q68) → (∀ q75 : Nat, q75 ∉ Z73.1 → ∀ Z76 : jZ, Z76 = jnw Z73 q75 17 2 → ∀ I77 : jI, I77 = jz0 I70 q75 → ∀ L78 : jL, L78 = jzL L71 q75 → (∀ q80 : Nat, q80 ∉ Z76.1 → ∀ Z81 : jZ, Z81 = jnw Z76 q80 2 0 → ∀ I82 : jI, I82 = jz0 I77 q80 → ∀ L83 : jL, L83 = jzL L78 q80 → (f_X2_init q80 Z81 I82 L83 (fun Z88 I89 L90 => (∀ Z97 : jZ, Z97 = jpR Z88 q75 (0 : Int32).toNatClampNeg (some q80) → (∀ q101 : Nat, q101 ∉ Z97.1 → ∀ Z102 : jZ, Z102 = jnw Z97 q101 2 0 → ∀ I103 : jI, I103 = jz0 I89 q101 → ∀ L104 : jL, L104 = jzL L90 q101 → (f_X2_init q101 Z102 I103 L104 (fun Z109 I110 L111 => (∀ Z118 : jZ, Z118 = jpR Z109 q75 (1 : Int32).toNatClampNeg (some q101) → (∀ Z122 : jZ, Z122 = jpR Z118 v0 8 (some q75) → (∀ q124 : Nat, q124 ∉ Z122.1 → ∀ Z125 : jZ, Z125 = jnw Z122 q124 0 0 → ∀ I126 : jI, I126 = jz0 I110 q124 → ∀ L127 : jL, L127 = jzL L111 q124 → (f_X0_init q124 Z125 I126 L127 (fun Z130 I131 L132 => (∀ Z137 : jZ, Z137 = jpR Z130 v0 9 (some q124) → (∀ q139 : Nat, q139 ∉ Z137.1 → ∀ Z140 : jZ, Z140 = jnw Z137 q139 1 0 → ∀ I141 : jI, I141 = jz0 I131 q139 → ∀ L142 : jL, L142 = jzL L132 q139 → (f_X1_init q139 Z140 I141 L142 (fun Z145 I146 L147 => (∀ Z152 : jZ, Z152 = jpR Z145 v0 10 (some q139) → (∀ q154 : Nat, q154 ∉ Z152.1 → ∀ Z155 : jZ, Z155 = jnw Z152 q154 14 3 → ∀ I156 : jI, I156 = jz0 I146 q154 → ∀ L157 : jL, L157 = jzL L147 q154 → (∀ Z159 : jZ, Z159 = jpR Z155 v0 11 (some q154) → (∀ q161 : Nat, q161 ∉ Z159.1 → ∀ Z162 : jZ, Z162 = jnw Z159 q161 14 3 → ∀ I163 : jI, I163 = jz0 I156 q161 → ∀ L164 : jL, L164 = jzL L157 q161 → (∀ Z166 : jZ, Z166 = jpR Z162 v0 12 (some q161) → (∀ q168 : Nat, q168 ∉ Z166.1 → ∀ Z169 : jZ, Z169 = jnw Z166 q168 14 21 → ∀ I170 : jI, I170 = jz0 I163 q168 → ∀ L171 : jL, L171 = jzL L164 q168 → (∀ Z173 : jZ, Z173 = jpR Z169 v0 13 (some q168) → (∀ q175 : Nat, q175 ∉ Z173.1 → ∀ Z176 : jZ, Z176 = jnw Z173 q175 14 21 → ∀ I177 : jI, I177 = jz0 I170 q175 → ∀ L178 : jL, L178 = jzL L171 q175 → (∀ Z180 : jZ, Z180 = jpR Z176 v0 14 (some q175) → (∀ q182 : Nat, q182 ∉ Z180.1 → ∀ Z183 : jZ, Z183 = jnw Z180 q182 15 26 → ∀ I184 : jI, I184 = jz0 I177 q182 → ∀ L185 : jL, L185 = jzL L178 q182 → (∀ Z187 : jZ, Z187 = jpR Z183 v0 15 (some q182) → (∀ I189 : jI, I189 = jpI I184 v0 16 (0 : Int32) → Q Z187 I189 L185))))))))))))))))))))))))))))))))))))))))))))))))))
set_option maxHeartbeats 4000000 in
set_option maxRecDepth 100000 in
theorem c_X11_init (l : Launch) (D : va_G) (cy : jC) (v0 : Nat) (Z : jZ) (I : jI) (L : jL) (Q : jZ → jI → jL → Prop) (kv0 : jk Z v0 11) (h : f_X11_init v0 Z I L Q) : jCt l yX11_init w_X11_init { frames := 3, cells := 70, slots := 3626, locals := 60 } D cy [.ref v0] Z I L (rtN Z Q) := by
  refine jCt_ofI (cc := cX11_init) (maxL := 1) (ret := none) (by decide +kernel) rfl (Nat.le_of_ble_eq_true rfl) ?_
  intro G eD eY eL hini E
  subst eD; subst eY; subst eL
  have E : jE G cX11_init RX11 w_X11_init 1 none { frames := 3, cells := 70, slots := 3626, locals := 60 } (rtN Z Q) := E
  have hx : jext Z Z := jext_rfl
  show jJ G 1 0 [(0, .ref v0)] [] Z I L 0 0
  refine j_aload_n E dX11_init_0 0 rfl ?_
  refine j_objinit E (tw W_990) (tw W_962) (tw W_963) (by decide) (Nat.le_of_ble_eq_true rfl) dX11_init_1 ?_
  refine j_aload_n E dX11_init_4 0 rfl ?_
  refine j_new E 10 rfl rfl (by decide) (iw iT_10) tyX10_ok (by decide) (tw W_991) (tw W_992) (tw W_189) (by decide) (by decide) dX11_init_5 (fun q1 nq1 => ?_)
  refine j_nmZ (fun Z2 eZ2 => ?_)
  refine j_nmI (fun I3 eI3 => ?_)
  refine j_nmL (fun L4 eL4 => ?_)
  have h := h q1 nq1 Z2 eZ2 I3 eI3 L4 eL4
  have yZ2 : jext Z Z2 := by rw [eZ2]; exact jext_nw nq1
  have kq1 : jk Z2 q1 10 := by rw [eZ2]; exact jk_nw
  have lq1 : jlen Z2 q1 = 0 := by rw [eZ2]; exact jlen_nw
  have k5 := (yZ2 _ _ kv0).1
  have hx : jext Z Z2 := jext_trans hx yZ2
  refine j_dup E dX11_init_8 rfl ?_
  refine j_callIN E [] [.ref q1, .ref v0] (c_X10_init (gL G) (gD G) (gY G) q1 Z2 I3 L4 _ kq1 h) (gwN W_993) rfl (nm_X10_init_X11_11) (tw W_189) (tw W_994) rfl fy_X10_init ⟨by decide, by decide⟩ rfl rfl (Nat.le_of_ble_eq_true rfl) ⟨by decide, by decide⟩ dX11_init_9 (fun v6 Z7 I8 L9 q10 => ?_)
  obtain ⟨yZ7, rfl, h⟩ := q10
  have k11 := (yZ7 _ _ k5).1
  have k12 := (yZ7 _ _ kq1).1
  have l13 := (yZ7 _ _ kq1).2.trans lq1
  have hx : jext Z Z7 := jext_trans hx yZ7
  show jJ G 1 12 [(0, .ref v0)] [.ref q1, .ref v0] Z7 I8 L9 _ _
  refine j_putrF E hini 11 0 rfl rfl (by decide) (by decide) (iw iT_11) tyX11_ok nmX11 rfl rfl (tw W_422) rfl rfl k11 dX11_init_12 ?_
  refine j_nmZ (fun Z14 eZ14 => ?_)
  have h := h Z14 eZ14
  have yZ14 : jext Z7 Z14 := by rw [eZ14]; exact jext_putr
  have k15 := (yZ14 _ _ k11).1
  have hx : jext Z Z14 := jext_trans hx yZ14
  refine j_aload_n E dX11_init_15 0 rfl ?_
  refine j_new E 9 rfl rfl (by decide) (iw iT_9) tyX9_ok (by decide) (tw W_995) (tw W_996) (tw W_378) (by decide) (by decide) dX11_init_16 (fun q16 nq16 => ?_)
  refine j_nmZ (fun Z17 eZ17 => ?_)
  refine j_nmI (fun I18 eI18 => ?_)
  refine j_nmL (fun L19 eL19 => ?_)
  have h := h q16 nq16 Z17 eZ17 I18 eI18 L19 eL19
  have yZ17 : jext Z14 Z17 := by rw [eZ17]; exact jext_nw nq16
  have kq16 : jk Z17 q16 9 := by rw [eZ17]; exact jk_nw
  have lq16 : jlen Z17 q16 = 0 := by rw [eZ17]; exact jlen_nw
  have k20 := (yZ17 _ _ k15).1
  have hx : jext Z Z17 := jext_trans hx yZ17
  refine j_dup E dX11_init_19 rfl ?_
  refine j_callIN E [] [.ref q16, .ref v0] (c_X9_init (gL G) (gD G) (gY G) q16 Z17 I18 L19 _ kq16 h) (gwN W_997) rfl (nm_X9_init_X11_18) (tw W_378) (tw W_998) rfl fy_X9_init ⟨by decide, by decide⟩ rfl rfl (Nat.le_of_ble_eq_true rfl) ⟨by decide, by decide⟩ dX11_init_20 (fun v21 Z22 I23 L24 q25 => ?_)
  obtain ⟨yZ22, rfl, h⟩ := q25
  have k26 := (yZ22 _ _ k20).1
  have k27 := (yZ22 _ _ kq16).1
  have l28 := (yZ22 _ _ kq16).2.trans lq16
  have hx : jext Z Z22 := jext_trans hx yZ22
  show jJ G 1 23 [(0, .ref v0)] [.ref q16, .ref v0] Z22 I23 L24 _ _
  refine j_putrF E hini 11 1 rfl rfl (by decide) (by decide) (iw iT_11) tyX11_ok nmX11 rfl rfl (tw W_445) rfl rfl k26 dX11_init_23 ?_
  refine j_nmZ (fun Z29 eZ29 => ?_)
  have h := h Z29 eZ29
  have yZ29 : jext Z22 Z29 := by rw [eZ29]; exact jext_putr
  have k30 := (yZ29 _ _ k26).1
  have hx : jext Z Z29 := jext_trans hx yZ29
  refine j_aload_n E dX11_init_26 0 rfl ?_
  refine j_new E 8 rfl rfl (by decide) (iw iT_8) tyX8_ok (by decide) (tw W_999) (tw W_1000) (tw W_254) (by decide) (by decide) dX11_init_27 (fun q31 nq31 => ?_)
  refine j_nmZ (fun Z32 eZ32 => ?_)
  refine j_nmI (fun I33 eI33 => ?_)
  refine j_nmL (fun L34 eL34 => ?_)
  have h := h q31 nq31 Z32 eZ32 I33 eI33 L34 eL34
  have yZ32 : jext Z29 Z32 := by rw [eZ32]; exact jext_nw nq31
  have kq31 : jk Z32 q31 8 := by rw [eZ32]; exact jk_nw
  have lq31 : jlen Z32 q31 = 0 := by rw [eZ32]; exact jlen_nw
  have k35 := (yZ32 _ _ k30).1
  have hx : jext Z Z32 := jext_trans hx yZ32
  refine j_dup E dX11_init_30 rfl ?_
  refine j_callIN E [] [.ref q31, .ref v0] (c_X8_init (gL G) (gD G) (gY G) q31 Z32 I33 L34 _ kq31 h) (gwN W_1001) rfl (nm_X8_init_X11_25) (tw W_254) (tw W_1002) rfl fy_X8_init ⟨by decide, by decide⟩ rfl rfl (Nat.le_of_ble_eq_true rfl) ⟨by decide, by decide⟩ dX11_init_31 (fun v36 Z37 I38 L39 q40 => ?_)
  obtain ⟨yZ37, rfl, h⟩ := q40
  have k41 := (yZ37 _ _ k35).1
  have k42 := (yZ37 _ _ kq31).1
  have l43 := (yZ37 _ _ kq31).2.trans lq31
  have hx : jext Z Z37 := jext_trans hx yZ37
  show jJ G 1 34 [(0, .ref v0)] [.ref q31, .ref v0] Z37 I38 L39 _ _
  refine j_putrF E hini 11 2 rfl rfl (by decide) (by decide) (iw iT_11) tyX11_ok nmX11 rfl rfl (tw W_454) rfl rfl k41 dX11_init_34 ?_
  refine j_nmZ (fun Z44 eZ44 => ?_)
  have h := h Z44 eZ44
  have yZ44 : jext Z37 Z44 := by rw [eZ44]; exact jext_putr
  have k45 := (yZ44 _ _ k41).1
  have hx : jext Z Z44 := jext_trans hx yZ44
  refine j_aload_n E dX11_init_37 0 rfl ?_
  refine j_bipush E (v := 6) dX11_init_38 (by decide) ?_
  refine j_newqP E 6 (by decide) (by decide) (by decide) (tw W_1003) (by decide) (by decide) dX11_init_40 (fun q46 nq46 => ?_)
  refine j_nmZ (fun Z47 eZ47 => ?_)
  refine j_nmI (fun I48 eI48 => ?_)
  refine j_nmL (fun L49 eL49 => ?_)
  have h := h q46 nq46 Z47 eZ47 I48 eI48 L49 eL49
  have yZ47 : jext Z44 Z47 := by rw [eZ47]; exact jext_nw nq46
  have kq46 : jk Z47 q46 18 := by rw [eZ47]; exact jk_nw
  have lq46 : jlen Z47 q46 = 6 := by rw [eZ47]; exact jlen_nw
  have k50 := (yZ47 _ _ k45).1
  have hx : jext Z Z47 := jext_trans hx yZ47
  refine j_putrF E hini 11 3 rfl rfl (by decide) (by decide) (iw iT_11) tyX11_ok nmX11 rfl rfl (tw W_432) rfl rfl k50 dX11_init_43 ?_
  refine j_nmZ (fun Z51 eZ51 => ?_)
  have h := h Z51 eZ51
  have yZ51 : jext Z47 Z51 := by rw [eZ51]; exact jext_putr
  have k52 := (yZ51 _ _ k50).1
  have hx : jext Z Z51 := jext_trans hx yZ51
  refine j_aload_n E dX11_init_46 0 rfl ?_
  refine j_iconst E (v := 0) dX11_init_47 (by decide) ?_
  refine j_puti E 11 4 rfl rfl (by decide) (by decide) (iw iT_11) tyX11_ok nmX11 rfl rfl (tw W_431) rfl rfl rfl k52 dX11_init_48 ?_
  refine j_nmI (fun I53 eI53 => ?_)
  have h := h I53 eI53
  refine j_aload_n E dX11_init_51 0 rfl ?_
  refine j_bipush E (v := 8) dX11_init_52 (by decide) ?_
  refine j_newaI E 8 (by decide) (by decide) (by decide) (tw W_966) (by decide) (by decide) dX11_init_54 (fun q54 nq54 => ?_)
  refine j_nmZ (fun Z55 eZ55 => ?_)
  refine j_nmI (fun I56 eI56 => ?_)
  refine j_nmL (fun L57 eL57 => ?_)
  have h := h q54 nq54 Z55 eZ55 I56 eI56 L57 eL57
  have yZ55 : jext Z51 Z55 := by rw [eZ55]; exact jext_nw nq54
  have kq54 : jk Z55 q54 14 := by rw [eZ55]; exact jk_nw
  have lq54 : jlen Z55 q54 = 8 := by rw [eZ55]; exact jlen_nw
  have k58 := (yZ55 _ _ k52).1
  have hx : jext Z Z55 := jext_trans hx yZ55
  refine j_putrF E hini 11 5 rfl rfl (by decide) (by decide) (iw iT_11) tyX11_ok nmX11 rfl rfl (tw W_434) rfl rfl k58 dX11_init_56 ?_
  refine j_nmZ (fun Z59 eZ59 => ?_)
  have h := h Z59 eZ59
  have yZ59 : jext Z55 Z59 := by rw [eZ59]; exact jext_putr
  have k60 := (yZ59 _ _ k58).1
  have hx : jext Z Z59 := jext_trans hx yZ59
  refine j_aload_n E dX11_init_59 0 rfl ?_
  refine j_bipush E (v := 8) dX11_init_60 (by decide) ?_
  refine j_newaI E 8 (by decide) (by decide) (by decide) (tw W_966) (by decide) (by decide) dX11_init_62 (fun q61 nq61 => ?_)
  refine j_nmZ (fun Z62 eZ62 => ?_)
  refine j_nmI (fun I63 eI63 => ?_)
  refine j_nmL (fun L64 eL64 => ?_)
  have h := h q61 nq61 Z62 eZ62 I63 eI63 L64 eL64
  have yZ62 : jext Z59 Z62 := by rw [eZ62]; exact jext_nw nq61
  have kq61 : jk Z62 q61 14 := by rw [eZ62]; exact jk_nw
  have lq61 : jlen Z62 q61 = 8 := by rw [eZ62]; exact jlen_nw
  have k65 := (yZ62 _ _ k60).1
  have hx : jext Z Z62 := jext_trans hx yZ62
  refine j_putrF E hini 11 6 rfl rfl (by decide) (by decide) (iw iT_11) tyX11_ok nmX11 rfl rfl (tw W_505) rfl rfl k65 dX11_init_64 ?_
  refine j_nmZ (fun Z66 eZ66 => ?_)
  have h := h Z66 eZ66
  have yZ66 : jext Z62 Z66 := by rw [eZ66]; exact jext_putr
  have k67 := (yZ66 _ _ k65).1
  have hx : jext Z Z66 := jext_trans hx yZ66
  refine j_aload_n E dX11_init_67 0 rfl ?_
  refine j_bipush E (v := 8) dX11_init_68 (by decide) ?_
  refine j_newaI E 8 (by decide) (by decide) (by decide) (tw W_966) (by decide) (by decide) dX11_init_70 (fun q68 nq68 => ?_)
  refine j_nmZ (fun Z69 eZ69 => ?_)
  refine j_nmI (fun I70 eI70 => ?_)
  refine j_nmL (fun L71 eL71 => ?_)
  have h := h q68 nq68 Z69 eZ69 I70 eI70 L71 eL71
  have yZ69 : jext Z66 Z69 := by rw [eZ69]; exact jext_nw nq68
  have kq68 : jk Z69 q68 14 := by rw [eZ69]; exact jk_nw
  have lq68 : jlen Z69 q68 = 8 := by rw [eZ69]; exact jlen_nw
  have k72 := (yZ69 _ _ k67).1
  have hx : jext Z Z69 := jext_trans hx yZ69
  refine j_putrF E hini 11 7 rfl rfl (by decide) (by decide) (iw iT_11) tyX11_ok nmX11 rfl rfl (tw W_506) rfl rfl k72 dX11_init_72 ?_
  refine j_nmZ (fun Z73 eZ73 => ?_)
  have h := h Z73 eZ73
  have yZ73 : jext Z69 Z73 := by rw [eZ73]; exact jext_putr
  have k74 := (yZ73 _ _ k72).1
  have hx : jext Z Z73 := jext_trans hx yZ73
  refine j_aload_n E dX11_init_75 0 rfl ?_
  refine j_iconst E (v := 2) dX11_init_76 (by decide) ?_
  refine j_newqK E 2 (by decide) (by decide) (by decide) (tw W_1004) (by decide) (by decide) dX11_init_77 (fun q75 nq75 => ?_)
  refine j_nmZ (fun Z76 eZ76 => ?_)
  refine j_nmI (fun I77 eI77 => ?_)
  refine j_nmL (fun L78 eL78 => ?_)
  have h := h q75 nq75 Z76 eZ76 I77 eI77 L78 eL78
  have yZ76 : jext Z73 Z76 := by rw [eZ76]; exact jext_nw nq75
  have kq75 : jk Z76 q75 17 := by rw [eZ76]; exact jk_nw
  have lq75 : jlen Z76 q75 = 2 := by rw [eZ76]; exact jlen_nw
  have k79 := (yZ76 _ _ k74).1
  have hx : jext Z Z76 := jext_trans hx yZ76
  refine j_dup E dX11_init_80 rfl ?_
  refine j_iconst E (v := 0) dX11_init_81 (by decide) ?_
  refine j_new E 2 rfl rfl (by decide) (iw iT_2) tyX2_ok (by decide) (tw W_1004) (tw W_1005) (tw W_665) (by decide) (by decide) dX11_init_82 (fun q80 nq80 => ?_)
  refine j_nmZ (fun Z81 eZ81 => ?_)
  refine j_nmI (fun I82 eI82 => ?_)
  refine j_nmL (fun L83 eL83 => ?_)
  have h := h q80 nq80 Z81 eZ81 I82 eI82 L83 eL83
  have yZ81 : jext Z76 Z81 := by rw [eZ81]; exact jext_nw nq80
  have kq80 : jk Z81 q80 2 := by rw [eZ81]; exact jk_nw
  have lq80 : jlen Z81 q80 = 0 := by rw [eZ81]; exact jlen_nw
  have k84 := (yZ81 _ _ k79).1
  have k85 := (yZ81 _ _ kq75).1
  have l86 := (yZ81 _ _ kq75).2.trans lq75
  have hx : jext Z Z81 := jext_trans hx yZ81
  refine j_dup E dX11_init_85 rfl ?_
  refine j_callIN E [] [.ref q80, .int (0 : Int32), .ref q75, .ref q75, .ref v0] (c_X2_init (gL G) (gD G) (gY G) q80 Z81 I82 L83 _ kq80 h) (gwN W_1006) rfl (nm_X2_init_X11_52) (tw W_665) (tw W_1007) rfl fy_X2_init ⟨by decide, by decide⟩ rfl rfl (Nat.le_of_ble_eq_true rfl) ⟨by decide, by decide⟩ dX11_init_86 (fun v87 Z88 I89 L90 q91 => ?_)
  obtain ⟨yZ88, rfl, h⟩ := q91
  have k92 := (yZ88 _ _ k84).1
  have k93 := (yZ88 _ _ k85).1
  have l94 := (yZ88 _ _ k85).2.trans l86
  have k95 := (yZ88 _ _ kq80).1
  have l96 := (yZ88 _ _ kq80).2.trans lq80
  have hx : jext Z Z88 := jext_trans hx yZ88
  show jJ G 1 89 [(0, .ref v0)] [.ref q80, .int (0 : Int32), .ref q75, .ref q75, .ref v0] Z88 I89 L90 _ _
  refine j_aastK E k93 (by rw [l94]; exact vp_in_lit (by decide)) k95 dX11_init_89 ?_
  refine j_nmZ (fun Z97 eZ97 => ?_)
  have h := h Z97 eZ97
  have yZ97 : jext Z88 Z97 := by rw [eZ97]; exact jext_putr
  have k98 := (yZ97 _ _ k92).1
  have k99 := (yZ97 _ _ k93).1
  have l100 := (yZ97 _ _ k93).2.trans l94
  have hx : jext Z Z97 := jext_trans hx yZ97
  refine j_dup E dX11_init_90 rfl ?_
  refine j_iconst E (v := 1) dX11_init_91 (by decide) ?_
  refine j_new E 2 rfl rfl (by decide) (iw iT_2) tyX2_ok (by decide) (tw W_1004) (tw W_1005) (tw W_665) (by decide) (by decide) dX11_init_92 (fun q101 nq101 => ?_)
  refine j_nmZ (fun Z102 eZ102 => ?_)
  refine j_nmI (fun I103 eI103 => ?_)
  refine j_nmL (fun L104 eL104 => ?_)
  have h := h q101 nq101 Z102 eZ102 I103 eI103 L104 eL104
  have yZ102 : jext Z97 Z102 := by rw [eZ102]; exact jext_nw nq101
  have kq101 : jk Z102 q101 2 := by rw [eZ102]; exact jk_nw
  have lq101 : jlen Z102 q101 = 0 := by rw [eZ102]; exact jlen_nw
  have k105 := (yZ102 _ _ k98).1
  have k106 := (yZ102 _ _ k99).1
  have l107 := (yZ102 _ _ k99).2.trans l100
  have hx : jext Z Z102 := jext_trans hx yZ102
  refine j_dup E dX11_init_95 rfl ?_
  refine j_callIN E [] [.ref q101, .int (1 : Int32), .ref q75, .ref q75, .ref v0] (c_X2_init (gL G) (gD G) (gY G) q101 Z102 I103 L104 _ kq101 h) (gwN W_1006) rfl (nm_X2_init_X11_52) (tw W_665) (tw W_1007) rfl fy_X2_init ⟨by decide, by decide⟩ rfl rfl (Nat.le_of_ble_eq_true rfl) ⟨by decide, by decide⟩ dX11_init_96 (fun v108 Z109 I110 L111 q112 => ?_)
  obtain ⟨yZ109, rfl, h⟩ := q112
  have k113 := (yZ109 _ _ k105).1
  have k114 := (yZ109 _ _ k106).1
  have l115 := (yZ109 _ _ k106).2.trans l107
  have k116 := (yZ109 _ _ kq101).1
  have l117 := (yZ109 _ _ kq101).2.trans lq101
  have hx : jext Z Z109 := jext_trans hx yZ109
  show jJ G 1 99 [(0, .ref v0)] [.ref q101, .int (1 : Int32), .ref q75, .ref q75, .ref v0] Z109 I110 L111 _ _
  refine j_aastK E k114 (by rw [l115]; exact vp_in_lit (by decide)) k116 dX11_init_99 ?_
  refine j_nmZ (fun Z118 eZ118 => ?_)
  have h := h Z118 eZ118
  have yZ118 : jext Z109 Z118 := by rw [eZ118]; exact jext_putr
  have k119 := (yZ118 _ _ k113).1
  have k120 := (yZ118 _ _ k114).1
  have l121 := (yZ118 _ _ k114).2.trans l115
  have hx : jext Z Z118 := jext_trans hx yZ118
  refine j_putrF E hini 11 8 rfl rfl (by decide) (by decide) (iw iT_11) tyX11_ok nmX11 rfl rfl (tw W_433) rfl rfl k119 dX11_init_100 ?_
  refine j_nmZ (fun Z122 eZ122 => ?_)
  have h := h Z122 eZ122
  have yZ122 : jext Z118 Z122 := by rw [eZ122]; exact jext_putr
  have k123 := (yZ122 _ _ k119).1
  have hx : jext Z Z122 := jext_trans hx yZ122
  refine j_aload_n E dX11_init_103 0 rfl ?_
  refine j_new E 0 rfl rfl (by decide) (iw iT_0) tyX0_ok (by decide) (tw W_1008) (tw W_1009) (tw W_98) (by decide) (by decide) dX11_init_104 (fun q124 nq124 => ?_)
  refine j_nmZ (fun Z125 eZ125 => ?_)
  refine j_nmI (fun I126 eI126 => ?_)
  refine j_nmL (fun L127 eL127 => ?_)
  have h := h q124 nq124 Z125 eZ125 I126 eI126 L127 eL127
  have yZ125 : jext Z122 Z125 := by rw [eZ125]; exact jext_nw nq124
  have kq124 : jk Z125 q124 0 := by rw [eZ125]; exact jk_nw
  have lq124 : jlen Z125 q124 = 0 := by rw [eZ125]; exact jlen_nw
  have k128 := (yZ125 _ _ k123).1
  have hx : jext Z Z125 := jext_trans hx yZ125
  refine j_dup E dX11_init_107 rfl ?_
  refine j_callIN E [] [.ref q124, .ref v0] (c_X0_init (gL G) (gD G) (gY G) q124 Z125 I126 L127 _ kq124 h) (gwN W_1010) rfl (nm_X0_init_X11_59) (tw W_98) (tw W_1011) rfl fy_X0_init ⟨by decide, by decide⟩ rfl rfl (Nat.le_of_ble_eq_true rfl) ⟨by decide, by decide⟩ dX11_init_108 (fun v129 Z130 I131 L132 q133 => ?_)
  obtain ⟨yZ130, rfl, h⟩ := q133
  have k134 := (yZ130 _ _ k128).1
  have k135 := (yZ130 _ _ kq124).1
  have l136 := (yZ130 _ _ kq124).2.trans lq124
  have hx : jext Z Z130 := jext_trans hx yZ130
  show jJ G 1 111 [(0, .ref v0)] [.ref q124, .ref v0] Z130 I131 L132 _ _
  refine j_putrF E hini 11 9 rfl rfl (by decide) (by decide) (iw iT_11) tyX11_ok nmX11 rfl rfl (tw W_544) rfl rfl k134 dX11_init_111 ?_
  refine j_nmZ (fun Z137 eZ137 => ?_)
  have h := h Z137 eZ137
  have yZ137 : jext Z130 Z137 := by rw [eZ137]; exact jext_putr
  have k138 := (yZ137 _ _ k134).1
  have hx : jext Z Z137 := jext_trans hx yZ137
  refine j_aload_n E dX11_init_114 0 rfl ?_
  refine j_new E 1 rfl rfl (by decide) (iw iT_1) tyX1_ok (by decide) (tw W_1012) (tw W_1013) (tw W_142) (by decide) (by decide) dX11_init_115 (fun q139 nq139 => ?_)
  refine j_nmZ (fun Z140 eZ140 => ?_)
  refine j_nmI (fun I141 eI141 => ?_)
  refine j_nmL (fun L142 eL142 => ?_)
  have h := h q139 nq139 Z140 eZ140 I141 eI141 L142 eL142
  have yZ140 : jext Z137 Z140 := by rw [eZ140]; exact jext_nw nq139
  have kq139 : jk Z140 q139 1 := by rw [eZ140]; exact jk_nw
  have lq139 : jlen Z140 q139 = 0 := by rw [eZ140]; exact jlen_nw
  have k143 := (yZ140 _ _ k138).1
  have hx : jext Z Z140 := jext_trans hx yZ140
  refine j_dup E dX11_init_118 rfl ?_
  refine j_callIN E [] [.ref q139, .ref v0] (c_X1_init (gL G) (gD G) (gY G) q139 Z140 I141 L142 _ kq139 h) (gwN W_1014) rfl (nm_X1_init_X11_66) (tw W_142) (tw W_1015) rfl fy_X1_init ⟨by decide, by decide⟩ rfl rfl (Nat.le_of_ble_eq_true rfl) ⟨by decide, by decide⟩ dX11_init_119 (fun v144 Z145 I146 L147 q148 => ?_)
  obtain ⟨yZ145, rfl, h⟩ := q148
  have k149 := (yZ145 _ _ k143).1
  have k150 := (yZ145 _ _ kq139).1
  have l151 := (yZ145 _ _ kq139).2.trans lq139
  have hx : jext Z Z145 := jext_trans hx yZ145
  show jJ G 1 122 [(0, .ref v0)] [.ref q139, .ref v0] Z145 I146 L147 _ _
  refine j_putrF E hini 11 10 rfl rfl (by decide) (by decide) (iw iT_11) tyX11_ok nmX11 rfl rfl (tw W_643) rfl rfl k149 dX11_init_122 ?_
  refine j_nmZ (fun Z152 eZ152 => ?_)
  have h := h Z152 eZ152
  have yZ152 : jext Z145 Z152 := by rw [eZ152]; exact jext_putr
  have k153 := (yZ152 _ _ k149).1
  have hx : jext Z Z152 := jext_trans hx yZ152
  refine j_aload_n E dX11_init_125 0 rfl ?_
  refine j_iconst E (v := 3) dX11_init_126 (by decide) ?_
  refine j_newaI E 3 (by decide) (by decide) (by decide) (tw W_966) (by decide) (by decide) dX11_init_127 (fun q154 nq154 => ?_)
  refine j_nmZ (fun Z155 eZ155 => ?_)
  refine j_nmI (fun I156 eI156 => ?_)
  refine j_nmL (fun L157 eL157 => ?_)
  have h := h q154 nq154 Z155 eZ155 I156 eI156 L157 eL157
  have yZ155 : jext Z152 Z155 := by rw [eZ155]; exact jext_nw nq154
  have kq154 : jk Z155 q154 14 := by rw [eZ155]; exact jk_nw
  have lq154 : jlen Z155 q154 = 3 := by rw [eZ155]; exact jlen_nw
  have k158 := (yZ155 _ _ k153).1
  have hx : jext Z Z155 := jext_trans hx yZ155
  refine j_putrF E hini 11 11 rfl rfl (by decide) (by decide) (iw iT_11) tyX11_ok nmX11 rfl rfl (tw W_562) rfl rfl k158 dX11_init_129 ?_
  refine j_nmZ (fun Z159 eZ159 => ?_)
  have h := h Z159 eZ159
  have yZ159 : jext Z155 Z159 := by rw [eZ159]; exact jext_putr
  have k160 := (yZ159 _ _ k158).1
  have hx : jext Z Z159 := jext_trans hx yZ159
  refine j_aload_n E dX11_init_132 0 rfl ?_
  refine j_iconst E (v := 3) dX11_init_133 (by decide) ?_
  refine j_newaI E 3 (by decide) (by decide) (by decide) (tw W_966) (by decide) (by decide) dX11_init_134 (fun q161 nq161 => ?_)
  refine j_nmZ (fun Z162 eZ162 => ?_)
  refine j_nmI (fun I163 eI163 => ?_)
  refine j_nmL (fun L164 eL164 => ?_)
  have h := h q161 nq161 Z162 eZ162 I163 eI163 L164 eL164
  have yZ162 : jext Z159 Z162 := by rw [eZ162]; exact jext_nw nq161
  have kq161 : jk Z162 q161 14 := by rw [eZ162]; exact jk_nw
  have lq161 : jlen Z162 q161 = 3 := by rw [eZ162]; exact jlen_nw
  have k165 := (yZ162 _ _ k160).1
  have hx : jext Z Z162 := jext_trans hx yZ162
  refine j_putrF E hini 11 12 rfl rfl (by decide) (by decide) (iw iT_11) tyX11_ok nmX11 rfl rfl (tw W_567) rfl rfl k165 dX11_init_136 ?_
  refine j_nmZ (fun Z166 eZ166 => ?_)
  have h := h Z166 eZ166
  have yZ166 : jext Z162 Z166 := by rw [eZ166]; exact jext_putr
  have k167 := (yZ166 _ _ k165).1
  have hx : jext Z Z166 := jext_trans hx yZ166
  refine j_aload_n E dX11_init_139 0 rfl ?_
  refine j_bipush E (v := 21) dX11_init_140 (by decide) ?_
  refine j_newaI E 21 (by decide) (by decide) (by decide) (tw W_966) (by decide) (by decide) dX11_init_142 (fun q168 nq168 => ?_)
  refine j_nmZ (fun Z169 eZ169 => ?_)
  refine j_nmI (fun I170 eI170 => ?_)
  refine j_nmL (fun L171 eL171 => ?_)
  have h := h q168 nq168 Z169 eZ169 I170 eI170 L171 eL171
  have yZ169 : jext Z166 Z169 := by rw [eZ169]; exact jext_nw nq168
  have kq168 : jk Z169 q168 14 := by rw [eZ169]; exact jk_nw
  have lq168 : jlen Z169 q168 = 21 := by rw [eZ169]; exact jlen_nw
  have k172 := (yZ169 _ _ k167).1
  have hx : jext Z Z169 := jext_trans hx yZ169
  refine j_putrF E hini 11 13 rfl rfl (by decide) (by decide) (iw iT_11) tyX11_ok nmX11 rfl rfl (tw W_572) rfl rfl k172 dX11_init_144 ?_
  refine j_nmZ (fun Z173 eZ173 => ?_)
  have h := h Z173 eZ173
  have yZ173 : jext Z169 Z173 := by rw [eZ173]; exact jext_putr
  have k174 := (yZ173 _ _ k172).1
  have hx : jext Z Z173 := jext_trans hx yZ173
  refine j_aload_n E dX11_init_147 0 rfl ?_
  refine j_bipush E (v := 21) dX11_init_148 (by decide) ?_
  refine j_newaI E 21 (by decide) (by decide) (by decide) (tw W_966) (by decide) (by decide) dX11_init_150 (fun q175 nq175 => ?_)
  refine j_nmZ (fun Z176 eZ176 => ?_)
  refine j_nmI (fun I177 eI177 => ?_)
  refine j_nmL (fun L178 eL178 => ?_)
  have h := h q175 nq175 Z176 eZ176 I177 eI177 L178 eL178
  have yZ176 : jext Z173 Z176 := by rw [eZ176]; exact jext_nw nq175
  have kq175 : jk Z176 q175 14 := by rw [eZ176]; exact jk_nw
  have lq175 : jlen Z176 q175 = 21 := by rw [eZ176]; exact jlen_nw
  have k179 := (yZ176 _ _ k174).1
  have hx : jext Z Z176 := jext_trans hx yZ176
  refine j_putrF E hini 11 14 rfl rfl (by decide) (by decide) (iw iT_11) tyX11_ok nmX11 rfl rfl (tw W_573) rfl rfl k179 dX11_init_152 ?_
  refine j_nmZ (fun Z180 eZ180 => ?_)
  have h := h Z180 eZ180
  have yZ180 : jext Z176 Z180 := by rw [eZ180]; exact jext_putr
  have k181 := (yZ180 _ _ k179).1
  have hx : jext Z Z180 := jext_trans hx yZ180
  refine j_aload_n E dX11_init_155 0 rfl ?_
  refine j_bipush E (v := 26) dX11_init_156 (by decide) ?_
  refine j_newaJ E 26 (by decide) (by decide) (by decide) (tw W_5) (by decide) (by decide) dX11_init_158 (fun q182 nq182 => ?_)
  refine j_nmZ (fun Z183 eZ183 => ?_)
  refine j_nmI (fun I184 eI184 => ?_)
  refine j_nmL (fun L185 eL185 => ?_)
  have h := h q182 nq182 Z183 eZ183 I184 eI184 L185 eL185
  have yZ183 : jext Z180 Z183 := by rw [eZ183]; exact jext_nw nq182
  have kq182 : jk Z183 q182 15 := by rw [eZ183]; exact jk_nw
  have lq182 : jlen Z183 q182 = 26 := by rw [eZ183]; exact jlen_nw
  have k186 := (yZ183 _ _ k181).1
  have hx : jext Z Z183 := jext_trans hx yZ183
  refine j_putrF E hini 11 15 rfl rfl (by decide) (by decide) (iw iT_11) tyX11_ok nmX11 rfl rfl (tw W_482) rfl rfl k186 dX11_init_160 ?_
  refine j_nmZ (fun Z187 eZ187 => ?_)
  have h := h Z187 eZ187
  have yZ187 : jext Z183 Z187 := by rw [eZ187]; exact jext_putr
  have k188 := (yZ187 _ _ k186).1
  have hx : jext Z Z187 := jext_trans hx yZ187
  refine j_aload_n E dX11_init_163 0 rfl ?_
  refine j_iconst E (v := 0) dX11_init_164 (by decide) ?_
  refine j_puti E 11 16 rfl rfl (by decide) (by decide) (iw iT_11) tyX11_ok nmX11 rfl rfl (tw W_481) rfl rfl rfl k188 dX11_init_165 ?_
  refine j_nmI (fun I189 eI189 => ?_)
  have h := h I189 eI189
  exact j_return E ⟨hx, rfl, h⟩ (by decide) (by decide) dX11_init_168
set_option maxRecDepth 100000 in
def f_X6_init (v0 : Nat) (v1 : Nat) (v2 : Int32) (v3 : Int32) (v4 : Int32) (Z : jZ) (I : jI) (L : jL) (Q : jZ → jI → jL → Prop) : Prop := (∀ q1 : Nat, q1 ∉ Z.1 → ∀ Z2 : jZ, Z2 = jnw Z q1 14 75 → ∀ I3 : jI, I3 = jz0 I q1 → ∀ L4 : jL, L4 = jzL L q1 → (∀ Z7 : jZ, Z7 = jpR Z2 v0 4 (some q1) → (∀ q10 : Nat, q10 ∉ Z7.1 → ∀ Z11 : jZ, Z11 = jnw Z7 q10 14 75 → ∀ I12 : jI, I12 = jz0 I3 q10 → ∀ L13 : jL, L13 = jzL L4 q10 → (∀ Z16 : jZ, Z16 = jpR Z11 v0 5 (some q10) → (∀ q19 : Nat, q19 ∉ Z16.1 → ∀ Z20 : jZ, Z20 = jnw Z16 q19 16 25 → ∀ I21 : jI, I21 = jz0 I12 q19 → ∀ L22 : jL, L22 = jzL L13 q19 → (∀ Z25 : jZ, Z25 = jpR Z20 v0 6 (some q19) → (∀ q28 : Nat, q28 ∉ Z25.1 → ∀ Z29 : jZ, Z29 = jnw Z25 q28 14 25 → ∀ I30 : jI, I30 = jz0 I21 q28 → ∀ L31 : jL, L31 = jzL L22 q28 → (∀ Z34 : jZ, Z34 = jpR Z29 v0 7 (some q28) → (∀ q37 : Nat, q37 ∉ Z34.1 → ∀ Z38 : jZ, Z38 = jnw Z34 q37 14 25 → ∀ I39 : jI, I39 = jz0 I30 q37 → ∀ L40 : jL, L40 = jzL L31 q37 → (∀ Z43 : jZ, Z43 = jpR Z38 v0 8 (some q37) → (∀ q46 : Nat, q46 ∉ Z43.1 → ∀ Z47 : jZ, Z47 = jnw Z43 q46 7 0 → ∀ I48 : jI, I48 = jz0 I39 q46 → ∀ L49 : jL, L49 = jzL L40 q46 → (f_X7_init q46 Z47 I48 L49 (fun Z53 I54 L55 => (∀ Z61 : jZ, Z61 = jpR Z53 v0 9 (some q46) → (∀ q64 : Nat, q64 ∉ Z61.1 → ∀ Z65 : jZ, Z65 = jnw Z61 q64 7 0 → ∀ I66 : jI, I66 = jz0 I54 q64 → ∀ L67 : jL, L67 = jzL L55 q64 → (f_X7_init q64 Z65 I66 L67 (fun Z71 I72 L73 => (∀ Z79 : jZ, Z79 = jpR Z71 v0 10 (some q64) → (∀ q82 : Nat, q82 ∉ Z79.1 → ∀ Z83 : jZ, Z83 = jnw Z79 q82 15 21 → ∀ I84 : jI, I84 = jz0 I72 q82 → ∀ L85 : jL, L85 = jzL L73 q82 → (∀ Z88 : jZ, Z88 = jpR Z83 v0 11 (some q82) → (∀ q91 : Nat, q91 ∉ Z88.1 → ∀ Z92 : jZ, Z92 = jnw Z88 q91 14 21 → ∀ I93 : jI, I93 = jz0 I84 q91 → ∀ L94 : jL, L94 = jzL L85 q91 → (∀ Z97 : jZ, Z97 = jpR Z92 v0 12 (some q91) → (∀ q100 : Nat, q100 ∉ Z97.1 → ∀ Z101 : jZ, Z101 = jnw Z97 q100 14 21 → ∀ I102 : jI, I102 = jz0 I93 q100 → ∀ L103 : jL, L103 = jzL L94 q100 → (∀ Z106 : jZ, Z106 = jpR Z101 v0 13 (some q100) → (∀ I109 : jI, I109 = jpI I102 v0 14 (0 : Int32) → (∀ I110 : jI, I110 = jpI I109 v0 15 (0 : Int32) → (∀ Z111 : jZ, Z111 = jpR Z106 v0 0 (some v1) → (∀ I114 : jI, I114 = jpI I110 v0 1 v2 → (∀ I115 : jI, I115 = jpI I114 v0 2 v3 → (∀ I116 : jI, I116 = jpI I115 v0 3 v4 → Q Z111 I116 L103))))))))))))))))))))))))))))))
set_option maxHeartbeats 4000000 in
set_option maxRecDepth 100000 in
theorem c_X6_init (l : Launch) (D : va_G) (cy : jC) (v0 : Nat) (v1 : Nat) (v2 : Int32) (v3 : Int32) (v4 : Int32) (Z : jZ) (I : jI) (L : jL) (Q : jZ → jI → jL → Prop) (kv0 : jk Z v0 6) (kv1 : jk Z v1 8) (h : f_X6_init v0 v1 v2 v3 v4 Z I L Q) : jCt l yX6_init w_X6_init { frames := 2, cells := 24, slots := 560, locals := 40 } D cy [.ref v0, .ref v1, .int v2, .int v3, .int v4] Z I L (rtN Z Q) := by
  refine jCt_ofI (cc := cX6_init) (maxL := 5) (ret := none) (by decide +kernel) rfl (Nat.le_of_ble_eq_true rfl) ?_
  intro G eD eY eL hini E
  subst eD; subst eY; subst eL
  have E : jE G cX6_init RX6 w_X6_init 5 none { frames := 2, cells := 24, slots := 560, locals := 40 } (rtN Z Q) := E
  have hx : jext Z Z := jext_rfl
  show jJ G 5 0 [(0, .ref v0), (1, .ref v1), (2, .int v2), (3, .int v3), (4, .int v4)] [] Z I L 0 0
  refine j_aload_n E dX6_init_0 0 rfl ?_
  refine j_objinit E (tw W_1016) (tw W_962) (tw W_963) (by decide) (Nat.le_of_ble_eq_true rfl) dX6_init_1 ?_
  refine j_aload_n E dX6_init_4 0 rfl ?_
  refine j_bipush E (v := 75) dX6_init_5 (by decide) ?_
  refine j_newaI E 75 (by decide) (by decide) (by decide) (tw W_966) (by decide) (by decide) dX6_init_7 (fun q1 nq1 => ?_)
  refine j_nmZ (fun Z2 eZ2 => ?_)
  refine j_nmI (fun I3 eI3 => ?_)
  refine j_nmL (fun L4 eL4 => ?_)
  have h := h q1 nq1 Z2 eZ2 I3 eI3 L4 eL4
  have yZ2 : jext Z Z2 := by rw [eZ2]; exact jext_nw nq1
  have kq1 : jk Z2 q1 14 := by rw [eZ2]; exact jk_nw
  have lq1 : jlen Z2 q1 = 75 := by rw [eZ2]; exact jlen_nw
  have k5 := (yZ2 _ _ kv0).1
  have k6 := (yZ2 _ _ kv1).1
  have hx : jext Z Z2 := jext_trans hx yZ2
  refine j_putrF E hini 6 4 rfl rfl (by decide) (by decide) (iw iT_6) tyX6_ok nmX6 rfl rfl (tw W_36) rfl rfl k5 dX6_init_9 ?_
  refine j_nmZ (fun Z7 eZ7 => ?_)
  have h := h Z7 eZ7
  have yZ7 : jext Z2 Z7 := by rw [eZ7]; exact jext_putr
  have k8 := (yZ7 _ _ k5).1
  have k9 := (yZ7 _ _ k6).1
  have hx : jext Z Z7 := jext_trans hx yZ7
  refine j_aload_n E dX6_init_12 0 rfl ?_
  refine j_bipush E (v := 75) dX6_init_13 (by decide) ?_
  refine j_newaI E 75 (by decide) (by decide) (by decide) (tw W_966) (by decide) (by decide) dX6_init_15 (fun q10 nq10 => ?_)
  refine j_nmZ (fun Z11 eZ11 => ?_)
  refine j_nmI (fun I12 eI12 => ?_)
  refine j_nmL (fun L13 eL13 => ?_)
  have h := h q10 nq10 Z11 eZ11 I12 eI12 L13 eL13
  have yZ11 : jext Z7 Z11 := by rw [eZ11]; exact jext_nw nq10
  have kq10 : jk Z11 q10 14 := by rw [eZ11]; exact jk_nw
  have lq10 : jlen Z11 q10 = 75 := by rw [eZ11]; exact jlen_nw
  have k14 := (yZ11 _ _ k8).1
  have k15 := (yZ11 _ _ k9).1
  have hx : jext Z Z11 := jext_trans hx yZ11
  refine j_putrF E hini 6 5 rfl rfl (by decide) (by decide) (iw iT_6) tyX6_ok nmX6 rfl rfl (tw W_37) rfl rfl k14 dX6_init_17 ?_
  refine j_nmZ (fun Z16 eZ16 => ?_)
  have h := h Z16 eZ16
  have yZ16 : jext Z11 Z16 := by rw [eZ16]; exact jext_putr
  have k17 := (yZ16 _ _ k14).1
  have k18 := (yZ16 _ _ k15).1
  have hx : jext Z Z16 := jext_trans hx yZ16
  refine j_aload_n E dX6_init_20 0 rfl ?_
  refine j_bipush E (v := 25) dX6_init_21 (by decide) ?_
  refine j_newaZ E 25 (by decide) (by decide) (by decide) (tw W_985) (by decide) (by decide) dX6_init_23 (fun q19 nq19 => ?_)
  refine j_nmZ (fun Z20 eZ20 => ?_)
  refine j_nmI (fun I21 eI21 => ?_)
  refine j_nmL (fun L22 eL22 => ?_)
  have h := h q19 nq19 Z20 eZ20 I21 eI21 L22 eL22
  have yZ20 : jext Z16 Z20 := by rw [eZ20]; exact jext_nw nq19
  have kq19 : jk Z20 q19 16 := by rw [eZ20]; exact jk_nw
  have lq19 : jlen Z20 q19 = 25 := by rw [eZ20]; exact jlen_nw
  have k23 := (yZ20 _ _ k17).1
  have k24 := (yZ20 _ _ k18).1
  have hx : jext Z Z20 := jext_trans hx yZ20
  refine j_putrF E hini 6 6 rfl rfl (by decide) (by decide) (iw iT_6) tyX6_ok nmX6 rfl rfl (tw W_59) rfl rfl k23 dX6_init_25 ?_
  refine j_nmZ (fun Z25 eZ25 => ?_)
  have h := h Z25 eZ25
  have yZ25 : jext Z20 Z25 := by rw [eZ25]; exact jext_putr
  have k26 := (yZ25 _ _ k23).1
  have k27 := (yZ25 _ _ k24).1
  have hx : jext Z Z25 := jext_trans hx yZ25
  refine j_aload_n E dX6_init_28 0 rfl ?_
  refine j_bipush E (v := 25) dX6_init_29 (by decide) ?_
  refine j_newaI E 25 (by decide) (by decide) (by decide) (tw W_966) (by decide) (by decide) dX6_init_31 (fun q28 nq28 => ?_)
  refine j_nmZ (fun Z29 eZ29 => ?_)
  refine j_nmI (fun I30 eI30 => ?_)
  refine j_nmL (fun L31 eL31 => ?_)
  have h := h q28 nq28 Z29 eZ29 I30 eI30 L31 eL31
  have yZ29 : jext Z25 Z29 := by rw [eZ29]; exact jext_nw nq28
  have kq28 : jk Z29 q28 14 := by rw [eZ29]; exact jk_nw
  have lq28 : jlen Z29 q28 = 25 := by rw [eZ29]; exact jlen_nw
  have k32 := (yZ29 _ _ k26).1
  have k33 := (yZ29 _ _ k27).1
  have hx : jext Z Z29 := jext_trans hx yZ29
  refine j_putrF E hini 6 7 rfl rfl (by decide) (by decide) (iw iT_6) tyX6_ok nmX6 rfl rfl (tw W_298) rfl rfl k32 dX6_init_33 ?_
  refine j_nmZ (fun Z34 eZ34 => ?_)
  have h := h Z34 eZ34
  have yZ34 : jext Z29 Z34 := by rw [eZ34]; exact jext_putr
  have k35 := (yZ34 _ _ k32).1
  have k36 := (yZ34 _ _ k33).1
  have hx : jext Z Z34 := jext_trans hx yZ34
  refine j_aload_n E dX6_init_36 0 rfl ?_
  refine j_bipush E (v := 25) dX6_init_37 (by decide) ?_
  refine j_newaI E 25 (by decide) (by decide) (by decide) (tw W_966) (by decide) (by decide) dX6_init_39 (fun q37 nq37 => ?_)
  refine j_nmZ (fun Z38 eZ38 => ?_)
  refine j_nmI (fun I39 eI39 => ?_)
  refine j_nmL (fun L40 eL40 => ?_)
  have h := h q37 nq37 Z38 eZ38 I39 eI39 L40 eL40
  have yZ38 : jext Z34 Z38 := by rw [eZ38]; exact jext_nw nq37
  have kq37 : jk Z38 q37 14 := by rw [eZ38]; exact jk_nw
  have lq37 : jlen Z38 q37 = 25 := by rw [eZ38]; exact jlen_nw
  have k41 := (yZ38 _ _ k35).1
  have k42 := (yZ38 _ _ k36).1
  have hx : jext Z Z38 := jext_trans hx yZ38
  refine j_putrF E hini 6 8 rfl rfl (by decide) (by decide) (iw iT_6) tyX6_ok nmX6 rfl rfl (tw W_310) rfl rfl k41 dX6_init_41 ?_
  refine j_nmZ (fun Z43 eZ43 => ?_)
  have h := h Z43 eZ43
  have yZ43 : jext Z38 Z43 := by rw [eZ43]; exact jext_putr
  have k44 := (yZ43 _ _ k41).1
  have k45 := (yZ43 _ _ k42).1
  have hx : jext Z Z43 := jext_trans hx yZ43
  refine j_aload_n E dX6_init_44 0 rfl ?_
  refine j_new E 7 rfl rfl (by decide) (iw iT_7) tyX7_ok (by decide) (tw W_1017) (tw W_981) (tw W_24) (by decide) (by decide) dX6_init_45 (fun q46 nq46 => ?_)
  refine j_nmZ (fun Z47 eZ47 => ?_)
  refine j_nmI (fun I48 eI48 => ?_)
  refine j_nmL (fun L49 eL49 => ?_)
  have h := h q46 nq46 Z47 eZ47 I48 eI48 L49 eL49
  have yZ47 : jext Z43 Z47 := by rw [eZ47]; exact jext_nw nq46
  have kq46 : jk Z47 q46 7 := by rw [eZ47]; exact jk_nw
  have lq46 : jlen Z47 q46 = 0 := by rw [eZ47]; exact jlen_nw
  have k50 := (yZ47 _ _ k44).1
  have k51 := (yZ47 _ _ k45).1
  have hx : jext Z Z47 := jext_trans hx yZ47
  refine j_dup E dX6_init_48 rfl ?_
  refine j_callIN E [] [.ref q46, .ref v0] (c_X7_init (gL G) (gD G) (gY G) q46 Z47 I48 L49 _ kq46 h) (gwN W_982) rfl (nm_X7_init_X6_30) (tw W_24) (tw W_983) rfl fy_X7_init ⟨by decide, by decide⟩ rfl rfl (Nat.le_of_ble_eq_true rfl) ⟨by decide, by decide⟩ dX6_init_49 (fun v52 Z53 I54 L55 q56 => ?_)
  obtain ⟨yZ53, rfl, h⟩ := q56
  have k57 := (yZ53 _ _ k50).1
  have k58 := (yZ53 _ _ k51).1
  have k59 := (yZ53 _ _ kq46).1
  have l60 := (yZ53 _ _ kq46).2.trans lq46
  have hx : jext Z Z53 := jext_trans hx yZ53
  show jJ G 5 52 [(0, .ref v0), (1, .ref v1), (2, .int v2), (3, .int v3), (4, .int v4)] [.ref q46, .ref v0] Z53 I54 L55 _ _
  refine j_putrF E hini 6 9 rfl rfl (by decide) (by decide) (iw iT_6) tyX6_ok nmX6 rfl rfl (tw W_311) rfl rfl k57 dX6_init_52 ?_
  refine j_nmZ (fun Z61 eZ61 => ?_)
  have h := h Z61 eZ61
  have yZ61 : jext Z53 Z61 := by rw [eZ61]; exact jext_putr
  have k62 := (yZ61 _ _ k57).1
  have k63 := (yZ61 _ _ k58).1
  have hx : jext Z Z61 := jext_trans hx yZ61
  refine j_aload_n E dX6_init_55 0 rfl ?_
  refine j_new E 7 rfl rfl (by decide) (iw iT_7) tyX7_ok (by decide) (tw W_1017) (tw W_981) (tw W_24) (by decide) (by decide) dX6_init_56 (fun q64 nq64 => ?_)
  refine j_nmZ (fun Z65 eZ65 => ?_)
  refine j_nmI (fun I66 eI66 => ?_)
  refine j_nmL (fun L67 eL67 => ?_)
  have h := h q64 nq64 Z65 eZ65 I66 eI66 L67 eL67
  have yZ65 : jext Z61 Z65 := by rw [eZ65]; exact jext_nw nq64
  have kq64 : jk Z65 q64 7 := by rw [eZ65]; exact jk_nw
  have lq64 : jlen Z65 q64 = 0 := by rw [eZ65]; exact jlen_nw
  have k68 := (yZ65 _ _ k62).1
  have k69 := (yZ65 _ _ k63).1
  have hx : jext Z Z65 := jext_trans hx yZ65
  refine j_dup E dX6_init_59 rfl ?_
  refine j_callIN E [] [.ref q64, .ref v0] (c_X7_init (gL G) (gD G) (gY G) q64 Z65 I66 L67 _ kq64 h) (gwN W_982) rfl (nm_X7_init_X6_30) (tw W_24) (tw W_983) rfl fy_X7_init ⟨by decide, by decide⟩ rfl rfl (Nat.le_of_ble_eq_true rfl) ⟨by decide, by decide⟩ dX6_init_60 (fun v70 Z71 I72 L73 q74 => ?_)
  obtain ⟨yZ71, rfl, h⟩ := q74
  have k75 := (yZ71 _ _ k68).1
  have k76 := (yZ71 _ _ k69).1
  have k77 := (yZ71 _ _ kq64).1
  have l78 := (yZ71 _ _ kq64).2.trans lq64
  have hx : jext Z Z71 := jext_trans hx yZ71
  show jJ G 5 63 [(0, .ref v0), (1, .ref v1), (2, .int v2), (3, .int v3), (4, .int v4)] [.ref q64, .ref v0] Z71 I72 L73 _ _
  refine j_putrF E hini 6 10 rfl rfl (by decide) (by decide) (iw iT_6) tyX6_ok nmX6 rfl rfl (tw W_330) rfl rfl k75 dX6_init_63 ?_
  refine j_nmZ (fun Z79 eZ79 => ?_)
  have h := h Z79 eZ79
  have yZ79 : jext Z71 Z79 := by rw [eZ79]; exact jext_putr
  have k80 := (yZ79 _ _ k75).1
  have k81 := (yZ79 _ _ k76).1
  have hx : jext Z Z79 := jext_trans hx yZ79
  refine j_aload_n E dX6_init_66 0 rfl ?_
  refine j_bipush E (v := 21) dX6_init_67 (by decide) ?_
  refine j_newaJ E 21 (by decide) (by decide) (by decide) (tw W_5) (by decide) (by decide) dX6_init_69 (fun q82 nq82 => ?_)
  refine j_nmZ (fun Z83 eZ83 => ?_)
  refine j_nmI (fun I84 eI84 => ?_)
  refine j_nmL (fun L85 eL85 => ?_)
  have h := h q82 nq82 Z83 eZ83 I84 eI84 L85 eL85
  have yZ83 : jext Z79 Z83 := by rw [eZ83]; exact jext_nw nq82
  have kq82 : jk Z83 q82 15 := by rw [eZ83]; exact jk_nw
  have lq82 : jlen Z83 q82 = 21 := by rw [eZ83]; exact jlen_nw
  have k86 := (yZ83 _ _ k80).1
  have k87 := (yZ83 _ _ k81).1
  have hx : jext Z Z83 := jext_trans hx yZ83
  refine j_putrF E hini 6 11 rfl rfl (by decide) (by decide) (iw iT_6) tyX6_ok nmX6 rfl rfl (tw W_349) rfl rfl k86 dX6_init_71 ?_
  refine j_nmZ (fun Z88 eZ88 => ?_)
  have h := h Z88 eZ88
  have yZ88 : jext Z83 Z88 := by rw [eZ88]; exact jext_putr
  have k89 := (yZ88 _ _ k86).1
  have k90 := (yZ88 _ _ k87).1
  have hx : jext Z Z88 := jext_trans hx yZ88
  refine j_aload_n E dX6_init_74 0 rfl ?_
  refine j_bipush E (v := 21) dX6_init_75 (by decide) ?_
  refine j_newaI E 21 (by decide) (by decide) (by decide) (tw W_966) (by decide) (by decide) dX6_init_77 (fun q91 nq91 => ?_)
  refine j_nmZ (fun Z92 eZ92 => ?_)
  refine j_nmI (fun I93 eI93 => ?_)
  refine j_nmL (fun L94 eL94 => ?_)
  have h := h q91 nq91 Z92 eZ92 I93 eI93 L94 eL94
  have yZ92 : jext Z88 Z92 := by rw [eZ92]; exact jext_nw nq91
  have kq91 : jk Z92 q91 14 := by rw [eZ92]; exact jk_nw
  have lq91 : jlen Z92 q91 = 21 := by rw [eZ92]; exact jlen_nw
  have k95 := (yZ92 _ _ k89).1
  have k96 := (yZ92 _ _ k90).1
  have hx : jext Z Z92 := jext_trans hx yZ92
  refine j_putrF E hini 6 12 rfl rfl (by decide) (by decide) (iw iT_6) tyX6_ok nmX6 rfl rfl (tw W_350) rfl rfl k95 dX6_init_79 ?_
  refine j_nmZ (fun Z97 eZ97 => ?_)
  have h := h Z97 eZ97
  have yZ97 : jext Z92 Z97 := by rw [eZ97]; exact jext_putr
  have k98 := (yZ97 _ _ k95).1
  have k99 := (yZ97 _ _ k96).1
  have hx : jext Z Z97 := jext_trans hx yZ97
  refine j_aload_n E dX6_init_82 0 rfl ?_
  refine j_bipush E (v := 21) dX6_init_83 (by decide) ?_
  refine j_newaI E 21 (by decide) (by decide) (by decide) (tw W_966) (by decide) (by decide) dX6_init_85 (fun q100 nq100 => ?_)
  refine j_nmZ (fun Z101 eZ101 => ?_)
  refine j_nmI (fun I102 eI102 => ?_)
  refine j_nmL (fun L103 eL103 => ?_)
  have h := h q100 nq100 Z101 eZ101 I102 eI102 L103 eL103
  have yZ101 : jext Z97 Z101 := by rw [eZ101]; exact jext_nw nq100
  have kq100 : jk Z101 q100 14 := by rw [eZ101]; exact jk_nw
  have lq100 : jlen Z101 q100 = 21 := by rw [eZ101]; exact jlen_nw
  have k104 := (yZ101 _ _ k98).1
  have k105 := (yZ101 _ _ k99).1
  have hx : jext Z Z101 := jext_trans hx yZ101
  refine j_putrF E hini 6 13 rfl rfl (by decide) (by decide) (iw iT_6) tyX6_ok nmX6 rfl rfl (tw W_348) rfl rfl k104 dX6_init_87 ?_
  refine j_nmZ (fun Z106 eZ106 => ?_)
  have h := h Z106 eZ106
  have yZ106 : jext Z101 Z106 := by rw [eZ106]; exact jext_putr
  have k107 := (yZ106 _ _ k104).1
  have k108 := (yZ106 _ _ k105).1
  have hx : jext Z Z106 := jext_trans hx yZ106
  refine j_aload_n E dX6_init_90 0 rfl ?_
  refine j_iconst E (v := 0) dX6_init_91 (by decide) ?_
  refine j_puti E 6 14 rfl rfl (by decide) (by decide) (iw iT_6) tyX6_ok nmX6 rfl rfl (tw W_287) rfl rfl rfl k107 dX6_init_92 ?_
  refine j_nmI (fun I109 eI109 => ?_)
  have h := h I109 eI109
  refine j_aload_n E dX6_init_95 0 rfl ?_
  refine j_iconst E (v := 0) dX6_init_96 (by decide) ?_
  refine j_puti E 6 15 rfl rfl (by decide) (by decide) (iw iT_6) tyX6_ok nmX6 rfl rfl (tw W_296) rfl rfl rfl k107 dX6_init_97 ?_
  refine j_nmI (fun I110 eI110 => ?_)
  have h := h I110 eI110
  refine j_aload_n E dX6_init_100 0 rfl ?_
  refine j_aload_n E dX6_init_101 1 rfl ?_
  refine j_putrF E hini 6 0 rfl rfl (by decide) (by decide) (iw iT_6) tyX6_ok nmX6 rfl rfl (tw W_286) rfl rfl k107 dX6_init_102 ?_
  refine j_nmZ (fun Z111 eZ111 => ?_)
  have h := h Z111 eZ111
  have yZ111 : jext Z106 Z111 := by rw [eZ111]; exact jext_putr
  have k112 := (yZ111 _ _ k107).1
  have k113 := (yZ111 _ _ k108).1
  have hx : jext Z Z111 := jext_trans hx yZ111
  refine j_aload_n E dX6_init_105 0 rfl ?_
  refine j_iload_n E dX6_init_106 2 rfl ?_
  refine j_putiF E hini 6 1 rfl rfl (by decide) (by decide) (iw iT_6) tyX6_ok nmX6 rfl rfl (tw W_314) rfl rfl rfl rfl k112 dX6_init_107 ?_
  refine j_nmI (fun I114 eI114 => ?_)
  have h := h I114 eI114
  refine j_aload_n E dX6_init_110 0 rfl ?_
  refine j_iload_n E dX6_init_111 3 rfl ?_
  refine j_putiF E hini 6 2 rfl rfl (by decide) (by decide) (iw iT_6) tyX6_ok nmX6 rfl rfl (tw W_315) rfl rfl rfl rfl k112 dX6_init_112 ?_
  refine j_nmI (fun I115 eI115 => ?_)
  have h := h I115 eI115
  refine j_aload_n E dX6_init_115 0 rfl ?_
  refine j_iload E dX6_init_116 4 rfl ?_
  refine j_putiF E hini 6 3 rfl rfl (by decide) (by decide) (iw iT_6) tyX6_ok nmX6 rfl rfl (tw W_58) rfl rfl rfl rfl k112 dX6_init_118 ?_
  refine j_nmI (fun I116 eI116 => ?_)
  have h := h I116 eI116
  exact j_return E ⟨hx, rfl, h⟩ (by decide) (by decide) dX6_init_121
set_option maxRecDepth 100000 in
def f_X5_init (v0 : Nat) (v1 : Nat) (v2 : Int32) (v3 : Int32) (v4 : Int32) (v5 : Int32) (Z : jZ) (I : jI) (L : jL) (Q : jZ → jI → jL → Prop) : Prop := (∀ I1 : jI, I1 = jpI I v0 4 (0 : Int32) → (∀ I2 : jI, I2 = jpI I1 v0 5 (-1 : Int32) → (∀ I3 : jI, I3 = jpI I2 v0 0 v2 → (∀ I4 : jI, I4 = jpI I3 v0 1 v3 → (∀ I5 : jI, I5 = jpI I4 v0 2 v4 → (∀ I6 : jI, I6 = jpI I5 v0 3 v5 → (∀ I7 : jI, I7 = jpI I6 v0 6 v2 → (∀ I8 : jI, I8 = jpI I7 v0 7 v3 → (∀ q9 : Nat, q9 ∉ Z.1 → ∀ Z10 : jZ, Z10 = jnw Z q9 6 0 → ∀ I11 : jI, I11 = jz0 I8 q9 → ∀ L12 : jL, L12 = jzL L q9 → (f_X6_init q9 v1 v2 v3 v4 Z10 I11 L12 (fun Z16 I17 L18 => (∀ Z24 : jZ, Z24 = jpR Z16 v0 8 (some q9) → Q Z24 I17 L18))))))))))))
set_option maxHeartbeats 4000000 in
set_option maxRecDepth 100000 in
theorem c_X5_init (l : Launch) (D : va_G) (cy : jC) (v0 : Nat) (v1 : Nat) (v2 : Int32) (v3 : Int32) (v4 : Int32) (v5 : Int32) (Z : jZ) (I : jI) (L : jL) (Q : jZ → jI → jL → Prop) (kv0 : jk Z v0 5) (kv1 : jk Z v1 8) (h : f_X5_init v0 v1 v2 v3 v4 v5 Z I L Q) : jCt l yX5_init w_X5_init { frames := 3, cells := 25, slots := 576, locals := 64 } D cy [.ref v0, .ref v1, .int v2, .int v3, .int v4, .int v5] Z I L (rtN Z Q) := by
  refine jCt_ofI (cc := cX5_init) (maxL := 6) (ret := none) (by decide +kernel) rfl (Nat.le_of_ble_eq_true rfl) ?_
  intro G eD eY eL hini E
  subst eD; subst eY; subst eL
  have E : jE G cX5_init RX5 w_X5_init 6 none { frames := 3, cells := 25, slots := 576, locals := 64 } (rtN Z Q) := E
  have hx : jext Z Z := jext_rfl
  show jJ G 6 0 [(0, .ref v0), (1, .ref v1), (2, .int v2), (3, .int v3), (4, .int v4), (5, .int v5)] [] Z I L 0 0
  refine j_aload_n E dX5_init_0 0 rfl ?_
  refine j_objinit E (tw W_1018) (tw W_962) (tw W_963) (by decide) (Nat.le_of_ble_eq_true rfl) dX5_init_1 ?_
  refine j_aload_n E dX5_init_4 0 rfl ?_
  refine j_iconst E (v := 0) dX5_init_5 (by decide) ?_
  refine j_puti E 5 4 rfl rfl (by decide) (by decide) (iw iT_5) tyX5_ok nmX5 rfl rfl (tw W_249) rfl rfl rfl kv0 dX5_init_6 ?_
  refine j_nmI (fun I1 eI1 => ?_)
  have h := h I1 eI1
  refine j_aload_n E dX5_init_9 0 rfl ?_
  refine j_iconst E (v := -1) dX5_init_10 (by decide) ?_
  refine j_puti E 5 5 rfl rfl (by decide) (by decide) (iw iT_5) tyX5_ok nmX5 rfl rfl (tw W_243) rfl rfl rfl kv0 dX5_init_11 ?_
  refine j_nmI (fun I2 eI2 => ?_)
  have h := h I2 eI2
  refine j_aload_n E dX5_init_14 0 rfl ?_
  refine j_iload_n E dX5_init_15 2 rfl ?_
  refine j_putiF E hini 5 0 rfl rfl (by decide) (by decide) (iw iT_5) tyX5_ok nmX5 rfl rfl (tw W_244) rfl rfl rfl rfl kv0 dX5_init_16 ?_
  refine j_nmI (fun I3 eI3 => ?_)
  have h := h I3 eI3
  refine j_aload_n E dX5_init_19 0 rfl ?_
  refine j_iload_n E dX5_init_20 3 rfl ?_
  refine j_putiF E hini 5 1 rfl rfl (by decide) (by decide) (iw iT_5) tyX5_ok nmX5 rfl rfl (tw W_246) rfl rfl rfl rfl kv0 dX5_init_21 ?_
  refine j_nmI (fun I4 eI4 => ?_)
  have h := h I4 eI4
  refine j_aload_n E dX5_init_24 0 rfl ?_
  refine j_iload E dX5_init_25 4 rfl ?_
  refine j_putiF E hini 5 2 rfl rfl (by decide) (by decide) (iw iT_5) tyX5_ok nmX5 rfl rfl (tw W_248) rfl rfl rfl rfl kv0 dX5_init_27 ?_
  refine j_nmI (fun I5 eI5 => ?_)
  have h := h I5 eI5
  refine j_aload_n E dX5_init_30 0 rfl ?_
  refine j_iload E dX5_init_31 5 rfl ?_
  refine j_putiF E hini 5 3 rfl rfl (by decide) (by decide) (iw iT_5) tyX5_ok nmX5 rfl rfl (tw W_1019) rfl rfl rfl rfl kv0 dX5_init_33 ?_
  refine j_nmI (fun I6 eI6 => ?_)
  have h := h I6 eI6
  refine j_aload_n E dX5_init_36 0 rfl ?_
  refine j_iload_n E dX5_init_37 2 rfl ?_
  refine j_puti E 5 6 rfl rfl (by decide) (by decide) (iw iT_5) tyX5_ok nmX5 rfl rfl (tw W_245) rfl rfl rfl kv0 dX5_init_38 ?_
  refine j_nmI (fun I7 eI7 => ?_)
  have h := h I7 eI7
  refine j_aload_n E dX5_init_41 0 rfl ?_
  refine j_iload_n E dX5_init_42 3 rfl ?_
  refine j_puti E 5 7 rfl rfl (by decide) (by decide) (iw iT_5) tyX5_ok nmX5 rfl rfl (tw W_247) rfl rfl rfl kv0 dX5_init_43 ?_
  refine j_nmI (fun I8 eI8 => ?_)
  have h := h I8 eI8
  refine j_aload_n E dX5_init_46 0 rfl ?_
  refine j_new E 6 rfl rfl (by decide) (iw iT_6) tyX6_ok (by decide) (tw W_1020) (tw W_1021) (tw W_33) (by decide) (by decide) dX5_init_47 (fun q9 nq9 => ?_)
  refine j_nmZ (fun Z10 eZ10 => ?_)
  refine j_nmI (fun I11 eI11 => ?_)
  refine j_nmL (fun L12 eL12 => ?_)
  have h := h q9 nq9 Z10 eZ10 I11 eI11 L12 eL12
  have yZ10 : jext Z Z10 := by rw [eZ10]; exact jext_nw nq9
  have kq9 : jk Z10 q9 6 := by rw [eZ10]; exact jk_nw
  have lq9 : jlen Z10 q9 = 0 := by rw [eZ10]; exact jlen_nw
  have k13 := (yZ10 _ _ kv0).1
  have k14 := (yZ10 _ _ kv1).1
  have hx : jext Z Z10 := jext_trans hx yZ10
  refine j_dup E dX5_init_50 rfl ?_
  refine j_aload_n E dX5_init_51 1 rfl ?_
  refine j_iload_n E dX5_init_52 2 rfl ?_
  refine j_iload_n E dX5_init_53 3 rfl ?_
  refine j_iload E dX5_init_54 4 rfl ?_
  refine j_callI E [.ref v1, .int v2, .int v3, .int v4] [.ref q9, .ref v0] (c_X6_init (gL G) (gD G) (gY G) q9 v1 v2 v3 v4 Z10 I11 L12 _ kq9 k14 h) (gwN W_1022) rfl (tw W_33) (tw W_1023) (tw W_1024) rfl fy_X6_init ⟨by decide, by decide⟩ rfl rfl (Nat.le_of_ble_eq_true rfl) ⟨by decide, by decide⟩ dX5_init_56 (fun v15 Z16 I17 L18 q19 => ?_)
  obtain ⟨yZ16, rfl, h⟩ := q19
  have k20 := (yZ16 _ _ k13).1
  have k21 := (yZ16 _ _ k14).1
  have k22 := (yZ16 _ _ kq9).1
  have l23 := (yZ16 _ _ kq9).2.trans lq9
  have hx : jext Z Z16 := jext_trans hx yZ16
  show jJ G 6 59 [(0, .ref v0), (1, .ref v1), (2, .int v2), (3, .int v3), (4, .int v4), (5, .int v5)] [.ref q9, .ref v0] Z16 I17 L18 _ _
  refine j_putrF E hini 5 8 rfl rfl (by decide) (by decide) (iw iT_5) tyX5_ok nmX5 rfl rfl (tw W_1025) rfl rfl k20 dX5_init_59 ?_
  refine j_nmZ (fun Z24 eZ24 => ?_)
  have h := h Z24 eZ24
  have yZ24 : jext Z16 Z24 := by rw [eZ24]; exact jext_putr
  have k25 := (yZ24 _ _ k20).1
  have k26 := (yZ24 _ _ k21).1
  have hx : jext Z Z24 := jext_trans hx yZ24
  exact j_return E ⟨hx, rfl, h⟩ (by decide) (by decide) dX5_init_62
set_option maxRecDepth 100000 in
def f_X12_init (v0 : Nat) (Z : jZ) (I : jI) (L : jL) (Q : jZ → jI → jL → Prop) : Prop := (∀ q1 : Nat, q1 ∉ Z.1 → ∀ Z2 : jZ, Z2 = jnw Z q1 14 24 → ∀ I3 : jI, I3 = jz0 I q1 → ∀ L4 : jL, L4 = jzL L q1 → (∀ Z6 : jZ, Z6 = jpR Z2 v0 1 (some q1) → (∀ q8 : Nat, q8 ∉ Z6.1 → ∀ Z9 : jZ, Z9 = jnw Z6 q8 14 24 → ∀ I10 : jI, I10 = jz0 I3 q8 → ∀ L11 : jL, L11 = jzL L4 q8 → (∀ Z13 : jZ, Z13 = jpR Z9 v0 2 (some q8) → (∀ q15 : Nat, q15 ∉ Z13.1 → ∀ Z16 : jZ, Z16 = jnw Z13 q15 14 24 → ∀ I17 : jI, I17 = jz0 I10 q15 → ∀ L18 : jL, L18 = jzL L11 q15 → (∀ Z20 : jZ, Z20 = jpR Z16 v0 3 (some q15) → (∀ q22 : Nat, q22 ∉ Z20.1 → ∀ Z23 : jZ, Z23 = jnw Z20 q22 16 24 → ∀ I24 : jI, I24 = jz0 I17 q22 → ∀ L25 : jL, L25 = jzL L18 q22 → (∀ Z27 : jZ, Z27 = jpR Z23 v0 4 (some q22) → (∀ q29 : Nat, q29 ∉ Z27.1 → ∀ Z30 : jZ, Z30 = jnw Z27 q29 14 192 → ∀ I31 : jI, I31 = jz0 I24 q29 → ∀ L32 : jL, L32 = jzL L25 q29 → (∀ Z34 : jZ, Z34 = jpR Z30 v0 5 (some q29) → (∀ q36 : Nat, q36 ∉ Z34.1 → ∀ Z37 : jZ, Z37 = jnw Z34 q36 16 64 → ∀ I38 : jI, I38 = jz0 I31 q36 → ∀ L39 : jL, L39 = jzL L32 q36 → (∀ Z41 : jZ, Z41 = jpR Z37 v0 6 (some q36) → (∀ q43 : Nat, q43 ∉ Z41.1 → ∀ Z44 : jZ, Z44 = jnw Z41 q43 14 6 → ∀ I45 : jI, I45 = jz0 I38 q43 → ∀ L46 : jL, L46 = jzL L39 q43 → (∀ Z48 : jZ, Z48 = jpR Z44 v0 9 (some q43) → (∀ q50 : Nat, q50 ∉ Z48.1 → ∀ Z51 : jZ, Z51 = jnw Z48 q50 14 6 → ∀ I52 : jI, I52 = jz0 I45 q50 → ∀ L53 : jL, L53 = jzL L46 q50 → (∀ Z55 : jZ, Z55 = jpR Z51 v0 10 (some q50) → (∀ q57 : Nat, q57 ∉ Z55.1 → ∀ Z58 : jZ, Z58 = jnw Z55 q57 14 6 → ∀ I59 : jI, I59 = jz0 I52 q57 → ∀ L60 : jL, L60 = jzL L53 q57 → (∀ Z62 : jZ, Z62 = jpR Z58 v0 11 (some q57) → (∀ q64 : Nat, q64 ∉ Z62.1 → ∀ Z65 : jZ, Z65 = jnw Z62 q64 14 6 → ∀ I66 : jI, I66 = jz0 I59 q64 → ∀ L67 : jL, L67 = jzL L60 q64 → (∀ Z69 : jZ, Z69 = jpR Z65 v0 12 (some q64) → (∀ q71 : Nat, q71 ∉ Z69.1 → ∀ Z72 : jZ, Z72 = jnw Z69 q71 14 6 → ∀ I73 : jI, I73 = jz0 I66 q71 → ∀ L74 : jL, L74 = jzL L67 q71 → (∀ Z76 : jZ, Z76 = jpR Z72 v0 13 (some q71) → (∀ q78 : Nat, q78 ∉ Z76.1 → ∀ Z79 : jZ, Z79 = jnw Z76 q78 14 6 → ∀ I80 : jI, I80 = jz0 I73 q78 → ∀ L81 : jL, L81 = jzL L74 q78 → (∀ Z83 : jZ, Z83 = jpR Z79 v0 14 (some q78) → (∀ q85 : Nat, q85 ∉ Z83.1 → ∀ Z86 : jZ, Z86 = jnw Z83 q85 14 6 → ∀ I87 : jI, I87 = jz0 I80 q85 → ∀ L88 : jL, L88 = jzL L81 q85 → (∀ Z90 : jZ, Z90 = jpR Z86 v0 15 (some q85) → (∀ q92 : Nat, q92 ∉ Z90.1 → ∀ Z93 : jZ, Z93 = jnw Z90 q92 14 6 → ∀ I94 : jI, I94 = jz0 I87 q92 → ∀ L95 : jL, L95 = jzL L88 q92 → (∀ Z97 : jZ, Z97 = jpR Z93 v0 16 (some q92) → (∀ q99 : Nat, q99 ∉ Z97.1 → ∀ Z100 : jZ, Z100 = jnw Z97 q99 14 8 → ∀ I101 : jI, I101 = jz0 I94 q99 → ∀ L102 : jL, L102 = jzL L95 q99 → (∀ Z104 : jZ, Z104 = jpR Z100 v0 17 (some q99) → (∀ q106 : Nat, q106 ∉ Z104.1 → ∀ Z107 : jZ, Z107 = jnw Z104 q106 13 80 → ∀ I108 : jI, I108 = jz0 I101 q106 → ∀ L109 : jL, L109 = jzL L102 q106 → (∀ Z111 : jZ, Z111 = jpR Z107 v0 18 (some q106) → (∀ q113 : Nat, q113 ∉ Z111.1 → ∀ Z114 : jZ, Z114 = jnw Z111 q113 15 40 → ∀ I115 : jI, I115 = jz0 I108 q113 → ∀ L116 : jL, L116 = jzL L109 q113 → (∀ Z118 : jZ, Z118 = jpR Z114 v0 20 (some q113) → (∀ q120 : Nat, q120 ∉ Z118.1 → ∀ Z121 : jZ, Z121 = jnw Z118 q120 14 120 → ∀ I122 : jI, I122 = jz0 I115 q120 → ∀ L123 : jL, L123 = jzL L116 q120 → (∀ Z125 : jZ, Z125 = jpR Z121 v0 28 (some q120) → (∀ q128 q129 q127 : Nat, q128 ∉ Z125.1 → q129 ∉ (jnw Z125 q128 13 40).1 → q127 ∉ (jnw (jnw Z125 q128 13 40) q129 13 40).1 → ∀ Z130 : jZ, Z130 = jnw2 Z125 q128 q129 q127 → ∀ I131 : jI, I131 = jz2 I122 q128 q129 q127 → ∀ L132 : jL, L132 = jzL2 L123 q128 q129 q127 → (∀ Z134 : jZ, Z134 = jpR Z130 v0 29 (some q127) → (∀ q136 : Nat, q136 ∉ Z134.1 → ∀ Z137 : jZ, Z137 = jnw Z134 q136 14 2 → ∀ I138 : jI, I138 = jz0 I131 q136 → ∀ L139 : jL, L139 = jzL L132 q136 → (∀ Z141 : jZ, Z141 = jpR Z137 v0 30 (some q136) → (∀ I143 : jI, I143 = jpI I138 v0 31 (-1 : Int32) → (∀ q144 : Nat, q144 ∉ Z141.1 → ∀ Z145 : jZ, Z145 = jnw Z141 q144 14 8 → ∀ I146 : jI, I146 = jz0 I143 q144 → ∀ L147 : jL, L147 = jzL L139 q144 → (∀ Z149 : jZ, Z149 = jpR Z145 v0 35 (some q144) → (∀ q151 : Nat, q151 ∉ Z149.1 → ∀ Z152 : jZ, Z152 = jnw Z149 q151 15 8 → ∀ I153 : jI, I153 = jz0 I146 q151 → ∀ L154 : jL, L154 = jzL L147 q151 → (∀ Z156 : jZ, Z156 = jpR Z152 v0 36 (some q151) → (∀ q158 : Nat, q158 ∉ Z156.1 → ∀ Z159 : jZ, Z159 = jnw Z156 q158 14 75 → ∀ I160 : jI, I160 = jz0 I153 q158 → ∀ L161 : jL, L161 = jzL L154 q158 → (∀ Z163 : jZ, Z163 = jpR Z159 v0 37 (some q158) → (∀ q165 : Nat, q165 ∉ Z163.1 → ∀ Z166 : jZ, Z166 = jnw Z163 q165 14 75 → ∀ I167 : jI, I167 = jz0 I160 q165 → ∀ L168 : jL, L168 = jzL L161 q165 → (∀ Z170 : jZ, Z170 = jpR Z166 v0 38 (some q165) → (∀ I172 : jI, I172 = jpI I167 v0 39 (-1 : Int32) → (∀ q173 : Nat, q173 ∉ Z170.1 → ∀ Z174 : jZ, Z174 = jnw Z170 q173 14 25000 → ∀ I175 : jI, I175 = jz0 I172 q173 → ∀ L176 : jL, L176 = jzL L168 q173 → (∀ Z178 : jZ, Z178 = jpR Z174 v0 40 (some q173) → (∀ q180 : Nat, q180 ∉ Z178.1 → ∀ Z181 : jZ, Z181 = jnw Z178 q180 14 24 → ∀ I182 : jI, I182 = jz0 I175 q180 → ∀ L183 : jL, L183 = jzL L176 q180 → (∀ Z185 : jZ, Z185 = jpR Z181 v0 44 (some q180) → (∀ q187 : Nat, q187 ∉ Z185.1 → ∀ Z188 : jZ, Z188 = jnw Z185 q187 14 484000 → ∀ I189 : jI, I189 = jz0 I182 q187 → ∀ L190 : jL, L190 = jzL L183 q187 → (∀ Z192 : jZ, Z192 = jpR Z188 v0 45 (some q187) → (∀ q194 : Nat, q194 ∉ Z192.1 → ∀ Z195 : jZ, Z195 = jnw Z192 q194 14 1536 → ∀ I196 : jI, I196 = jz0 I189 q194 → ∀ L197 : jL, L197 = jzL L190 q194 → (∀ Z199 : jZ, Z199 = jpR Z195 v0 53 (some q194) → (∀ q201 : Nat, q201 ∉ Z199.1 → ∀ Z202 : jZ, Z202 = jnw Z199 q201 14 192 → ∀ I203 : jI, I203 = jz0 I196 q201 → ∀ L204 : jL, L204 = jzL L197 q201 → (∀ Z206 : jZ, Z206 = jpR Z202 v0 54 (some q201) → (∀ q208 : Nat, q208 ∉ Z206.1 → ∀ Z209 : jZ, Z209 = jnw Z206 q208 14 144 → ∀ I210 : jI, I210 = jz0 I203 q208 → ∀ L211 : jL, L211 = jzL L204 q208 → (∀ Z213 : jZ, Z213 = jpR Z209 v0 55 (some q208) → (∀ q215 : Nat, q215 ∉ Z213.1 → ∀ Z216 : jZ, Z216 = jnw Z213 q215 14 6 → ∀ I217 : jI, I217 = jz0 I210 q215 → ∀ L218 : jL, L218 = jzL L211 q215 → (∀ Z220 : jZ, Z220 = jpR Z216 v0 56 (some q215) → (∀ q222 : Nat, q222 ∉ Z220.1 → ∀ Z223 : jZ, Z223 = jnw Z220 q222 14 6 → ∀ I224 : jI, I224 = jz0 I217 q222 → ∀ L225 : jL, L225 = jzL L218 q222 → (∀ Z227 : jZ, Z227 = jpR Z223 v0 57 (some q222) → (∀ q229 : Nat, q229 ∉ Z227.1 → ∀ Z230 : jZ, Z230 = jnw Z227 q229 14 6 → ∀ I231 : jI, I231 = jz0 I224 q229 → ∀ L232 : jL, L232 = jzL L225 q229 → (∀ Z234 : jZ, Z234 = jpR Z230 v0 58 (some q229) → (∀ q236 : Nat, q236 ∉ Z234.1 → ∀ Z237 : jZ, Z237 = jnw Z234 q236 14 24 → ∀ I238 : jI, I238 = jz0 I231 q236 → ∀ L239 : jL, L239 = jzL L232 q236 → (∀ Z241 : jZ, Z241 = jpR Z237 v0 59 (some q236) → (∀ q243 : Nat, q243 ∉ Z241.1 → ∀ Z244 : jZ, Z244 = jnw Z241 q243 14 6 → ∀ I245 : jI, I245 = jz0 I238 q243 → ∀ L246 : jL, L246 = jzL L239 q243 → (∀ Z248 : jZ, Z248 = jpR Z244 v0 61 (some q243) → (∀ q250 : Nat, q250 ∉ Z248.1 → ∀ Z251 : jZ, Z251 = jnw Z248 q250 14 532 → ∀ I252 : jI, I252 = jz0 I245 q250 → ∀ L253 : jL, L253 = jzL L246 q250 → (∀ Z255 : jZ, Z255 = jpR Z251 v0 62 (some q250) → (∀ q257 : Nat, q257 ∉ Z255.1 → ∀ Z258 : jZ, Z258 = jnw Z255 q257 16 2 → ∀ I259 : jI, I259 = jz0 I252 q257 → ∀ L260 : jL, L260 = jzL L253 q257 → (∀ Z262 : jZ, Z262 = jpR Z258 v0 63 (some q257) → (∀ q264 : Nat, q264 ∉ Z262.1 → ∀ Z265 : jZ, Z265 = jnw Z262 q264 14 2 → ∀ I266 : jI, I266 = jz0 I259 q264 → ∀ L267 : jL, L267 = jzL L260 q264 → (∀ Z269 : jZ, Z269 = jpR Z265 v0 64 (some q264) → (∀ q271 : Nat, q271 ∉ Z269.1 → ∀ Z272 : jZ, Z272 = jnw Z269 q271 14 2 → ∀ I273 : jI, I273 = jz0 I266 q271 → ∀ L274 : jL, L274 = jzL L267 q271 → (∀ Z276 : jZ, Z276 = jpR Z272 v0 65 (some q271) → Q Z276 I273 L274))))))))))))))))))))))))))))))))))))))))))))))))))))))))))))))))))))))))))))))))
set_option maxHeartbeats 4000000 in
set_option maxRecDepth 100000 in
theorem c_X12_init (l : Launch) (D : va_G) (cy : jC) (v0 : Nat) (Z : jZ) (I : jI) (L : jL) (Q : jZ → jI → jL → Prop) (kv0 : jk Z v0 12) (h : f_X12_init v0 Z I L Q) : jCt l yX12_init w_X12_init { frames := 1, cells := 41, slots := 512380, locals := 20 } D cy [.ref v0] Z I L (rtN Z Q) := by
  refine jCt_ofI (cc := cX12_init) (maxL := 1) (ret := none) (by decide +kernel) rfl (Nat.le_of_ble_eq_true rfl) ?_
  intro G eD eY eL hini E
  subst eD; subst eY; subst eL
  have E : jE G cX12_init RX12 w_X12_init 1 none { frames := 1, cells := 41, slots := 512380, locals := 20 } (rtN Z Q) := E
  have hx : jext Z Z := jext_rfl
  show jJ G 1 0 [(0, .ref v0)] [] Z I L 0 0
  refine j_aload_n E dX12_init_0 0 rfl ?_
  refine j_objinit E (tw W_1026) (tw W_962) (tw W_963) (by decide) (Nat.le_of_ble_eq_true rfl) dX12_init_1 ?_
  refine j_aload_n E dX12_init_4 0 rfl ?_
  refine j_bipush E (v := 24) dX12_init_5 (by decide) ?_
  refine j_newaI E 24 (by decide) (by decide) (by decide) (tw W_966) (by decide) (by decide) dX12_init_7 (fun q1 nq1 => ?_)
  refine j_nmZ (fun Z2 eZ2 => ?_)
  refine j_nmI (fun I3 eI3 => ?_)
  refine j_nmL (fun L4 eL4 => ?_)
  have h := h q1 nq1 Z2 eZ2 I3 eI3 L4 eL4
  have yZ2 : jext Z Z2 := by rw [eZ2]; exact jext_nw nq1
  have kq1 : jk Z2 q1 14 := by rw [eZ2]; exact jk_nw
  have lq1 : jlen Z2 q1 = 24 := by rw [eZ2]; exact jlen_nw
  have k5 := (yZ2 _ _ kv0).1
  have hx : jext Z Z2 := jext_trans hx yZ2
  refine j_putrF E hini 12 1 rfl rfl (by decide) (by decide) (iw iT_12) tyX12_ok nmX12 rfl rfl (tw W_741) rfl rfl k5 dX12_init_9 ?_
  refine j_nmZ (fun Z6 eZ6 => ?_)
  have h := h Z6 eZ6
  have yZ6 : jext Z2 Z6 := by rw [eZ6]; exact jext_putr
  have k7 := (yZ6 _ _ k5).1
  have hx : jext Z Z6 := jext_trans hx yZ6
  refine j_aload_n E dX12_init_12 0 rfl ?_
  refine j_bipush E (v := 24) dX12_init_13 (by decide) ?_
  refine j_newaI E 24 (by decide) (by decide) (by decide) (tw W_966) (by decide) (by decide) dX12_init_15 (fun q8 nq8 => ?_)
  refine j_nmZ (fun Z9 eZ9 => ?_)
  refine j_nmI (fun I10 eI10 => ?_)
  refine j_nmL (fun L11 eL11 => ?_)
  have h := h q8 nq8 Z9 eZ9 I10 eI10 L11 eL11
  have yZ9 : jext Z6 Z9 := by rw [eZ9]; exact jext_nw nq8
  have kq8 : jk Z9 q8 14 := by rw [eZ9]; exact jk_nw
  have lq8 : jlen Z9 q8 = 24 := by rw [eZ9]; exact jlen_nw
  have k12 := (yZ9 _ _ k7).1
  have hx : jext Z Z9 := jext_trans hx yZ9
  refine j_putrF E hini 12 2 rfl rfl (by decide) (by decide) (iw iT_12) tyX12_ok nmX12 rfl rfl (tw W_742) rfl rfl k12 dX12_init_17 ?_
  refine j_nmZ (fun Z13 eZ13 => ?_)
  have h := h Z13 eZ13
  have yZ13 : jext Z9 Z13 := by rw [eZ13]; exact jext_putr
  have k14 := (yZ13 _ _ k12).1
  have hx : jext Z Z13 := jext_trans hx yZ13
  refine j_aload_n E dX12_init_20 0 rfl ?_
  refine j_bipush E (v := 24) dX12_init_21 (by decide) ?_
  refine j_newaI E 24 (by decide) (by decide) (by decide) (tw W_966) (by decide) (by decide) dX12_init_23 (fun q15 nq15 => ?_)
  refine j_nmZ (fun Z16 eZ16 => ?_)
  refine j_nmI (fun I17 eI17 => ?_)
  refine j_nmL (fun L18 eL18 => ?_)
  have h := h q15 nq15 Z16 eZ16 I17 eI17 L18 eL18
  have yZ16 : jext Z13 Z16 := by rw [eZ16]; exact jext_nw nq15
  have kq15 : jk Z16 q15 14 := by rw [eZ16]; exact jk_nw
  have lq15 : jlen Z16 q15 = 24 := by rw [eZ16]; exact jlen_nw
  have k19 := (yZ16 _ _ k14).1
  have hx : jext Z Z16 := jext_trans hx yZ16
  refine j_putrF E hini 12 3 rfl rfl (by decide) (by decide) (iw iT_12) tyX12_ok nmX12 rfl rfl (tw W_743) rfl rfl k19 dX12_init_25 ?_
  refine j_nmZ (fun Z20 eZ20 => ?_)
  have h := h Z20 eZ20
  have yZ20 : jext Z16 Z20 := by rw [eZ20]; exact jext_putr
  have k21 := (yZ20 _ _ k19).1
  have hx : jext Z Z20 := jext_trans hx yZ20
  refine j_aload_n E dX12_init_28 0 rfl ?_
  refine j_bipush E (v := 24) dX12_init_29 (by decide) ?_
  refine j_newaZ E 24 (by decide) (by decide) (by decide) (tw W_985) (by decide) (by decide) dX12_init_31 (fun q22 nq22 => ?_)
  refine j_nmZ (fun Z23 eZ23 => ?_)
  refine j_nmI (fun I24 eI24 => ?_)
  refine j_nmL (fun L25 eL25 => ?_)
  have h := h q22 nq22 Z23 eZ23 I24 eI24 L25 eL25
  have yZ23 : jext Z20 Z23 := by rw [eZ23]; exact jext_nw nq22
  have kq22 : jk Z23 q22 16 := by rw [eZ23]; exact jk_nw
  have lq22 : jlen Z23 q22 = 24 := by rw [eZ23]; exact jlen_nw
  have k26 := (yZ23 _ _ k21).1
  have hx : jext Z Z23 := jext_trans hx yZ23
  refine j_putrF E hini 12 4 rfl rfl (by decide) (by decide) (iw iT_12) tyX12_ok nmX12 rfl rfl (tw W_738) rfl rfl k26 dX12_init_33 ?_
  refine j_nmZ (fun Z27 eZ27 => ?_)
  have h := h Z27 eZ27
  have yZ27 : jext Z23 Z27 := by rw [eZ27]; exact jext_putr
  have k28 := (yZ27 _ _ k26).1
  have hx : jext Z Z27 := jext_trans hx yZ27
  refine j_aload_n E dX12_init_36 0 rfl ?_
  refine j_sipush E (v := 192) dX12_init_37 (by decide) ?_
  refine j_newaI E 192 (by decide) (by decide) (by decide) (tw W_966) (by decide) (by decide) dX12_init_40 (fun q29 nq29 => ?_)
  refine j_nmZ (fun Z30 eZ30 => ?_)
  refine j_nmI (fun I31 eI31 => ?_)
  refine j_nmL (fun L32 eL32 => ?_)
  have h := h q29 nq29 Z30 eZ30 I31 eI31 L32 eL32
  have yZ30 : jext Z27 Z30 := by rw [eZ30]; exact jext_nw nq29
  have kq29 : jk Z30 q29 14 := by rw [eZ30]; exact jk_nw
  have lq29 : jlen Z30 q29 = 192 := by rw [eZ30]; exact jlen_nw
  have k33 := (yZ30 _ _ k28).1
  have hx : jext Z Z30 := jext_trans hx yZ30
  refine j_putrF E hini 12 5 rfl rfl (by decide) (by decide) (iw iT_12) tyX12_ok nmX12 rfl rfl (tw W_699) rfl rfl k33 dX12_init_42 ?_
  refine j_nmZ (fun Z34 eZ34 => ?_)
  have h := h Z34 eZ34
  have yZ34 : jext Z30 Z34 := by rw [eZ34]; exact jext_putr
  have k35 := (yZ34 _ _ k33).1
  have hx : jext Z Z34 := jext_trans hx yZ34
  refine j_aload_n E dX12_init_45 0 rfl ?_
  refine j_bipush E (v := 64) dX12_init_46 (by decide) ?_
  refine j_newaZ E 64 (by decide) (by decide) (by decide) (tw W_985) (by decide) (by decide) dX12_init_48 (fun q36 nq36 => ?_)
  refine j_nmZ (fun Z37 eZ37 => ?_)
  refine j_nmI (fun I38 eI38 => ?_)
  refine j_nmL (fun L39 eL39 => ?_)
  have h := h q36 nq36 Z37 eZ37 I38 eI38 L39 eL39
  have yZ37 : jext Z34 Z37 := by rw [eZ37]; exact jext_nw nq36
  have kq36 : jk Z37 q36 16 := by rw [eZ37]; exact jk_nw
  have lq36 : jlen Z37 q36 = 64 := by rw [eZ37]; exact jlen_nw
  have k40 := (yZ37 _ _ k35).1
  have hx : jext Z Z37 := jext_trans hx yZ37
  refine j_putrF E hini 12 6 rfl rfl (by decide) (by decide) (iw iT_12) tyX12_ok nmX12 rfl rfl (tw W_755) rfl rfl k40 dX12_init_50 ?_
  refine j_nmZ (fun Z41 eZ41 => ?_)
  have h := h Z41 eZ41
  have yZ41 : jext Z37 Z41 := by rw [eZ41]; exact jext_putr
  have k42 := (yZ41 _ _ k40).1
  have hx : jext Z Z41 := jext_trans hx yZ41
  refine j_aload_n E dX12_init_53 0 rfl ?_
  refine j_bipush E (v := 6) dX12_init_54 (by decide) ?_
  refine j_newaI E 6 (by decide) (by decide) (by decide) (tw W_966) (by decide) (by decide) dX12_init_56 (fun q43 nq43 => ?_)
  refine j_nmZ (fun Z44 eZ44 => ?_)
  refine j_nmI (fun I45 eI45 => ?_)
  refine j_nmL (fun L46 eL46 => ?_)
  have h := h q43 nq43 Z44 eZ44 I45 eI45 L46 eL46
  have yZ44 : jext Z41 Z44 := by rw [eZ44]; exact jext_nw nq43
  have kq43 : jk Z44 q43 14 := by rw [eZ44]; exact jk_nw
  have lq43 : jlen Z44 q43 = 6 := by rw [eZ44]; exact jlen_nw
  have k47 := (yZ44 _ _ k42).1
  have hx : jext Z Z44 := jext_trans hx yZ44
  refine j_putrF E hini 12 9 rfl rfl (by decide) (by decide) (iw iT_12) tyX12_ok nmX12 rfl rfl (tw W_734) rfl rfl k47 dX12_init_58 ?_
  refine j_nmZ (fun Z48 eZ48 => ?_)
  have h := h Z48 eZ48
  have yZ48 : jext Z44 Z48 := by rw [eZ48]; exact jext_putr
  have k49 := (yZ48 _ _ k47).1
  have hx : jext Z Z48 := jext_trans hx yZ48
  refine j_aload_n E dX12_init_61 0 rfl ?_
  refine j_bipush E (v := 6) dX12_init_62 (by decide) ?_
  refine j_newaI E 6 (by decide) (by decide) (by decide) (tw W_966) (by decide) (by decide) dX12_init_64 (fun q50 nq50 => ?_)
  refine j_nmZ (fun Z51 eZ51 => ?_)
  refine j_nmI (fun I52 eI52 => ?_)
  refine j_nmL (fun L53 eL53 => ?_)
  have h := h q50 nq50 Z51 eZ51 I52 eI52 L53 eL53
  have yZ51 : jext Z48 Z51 := by rw [eZ51]; exact jext_nw nq50
  have kq50 : jk Z51 q50 14 := by rw [eZ51]; exact jk_nw
  have lq50 : jlen Z51 q50 = 6 := by rw [eZ51]; exact jlen_nw
  have k54 := (yZ51 _ _ k49).1
  have hx : jext Z Z51 := jext_trans hx yZ51
  refine j_putrF E hini 12 10 rfl rfl (by decide) (by decide) (iw iT_12) tyX12_ok nmX12 rfl rfl (tw W_736) rfl rfl k54 dX12_init_66 ?_
  refine j_nmZ (fun Z55 eZ55 => ?_)
  have h := h Z55 eZ55
  have yZ55 : jext Z51 Z55 := by rw [eZ55]; exact jext_putr
  have k56 := (yZ55 _ _ k54).1
  have hx : jext Z Z55 := jext_trans hx yZ55
  refine j_aload_n E dX12_init_69 0 rfl ?_
  refine j_bipush E (v := 6) dX12_init_70 (by decide) ?_
  refine j_newaI E 6 (by decide) (by decide) (by decide) (tw W_966) (by decide) (by decide) dX12_init_72 (fun q57 nq57 => ?_)
  refine j_nmZ (fun Z58 eZ58 => ?_)
  refine j_nmI (fun I59 eI59 => ?_)
  refine j_nmL (fun L60 eL60 => ?_)
  have h := h q57 nq57 Z58 eZ58 I59 eI59 L60 eL60
  have yZ58 : jext Z55 Z58 := by rw [eZ58]; exact jext_nw nq57
  have kq57 : jk Z58 q57 14 := by rw [eZ58]; exact jk_nw
  have lq57 : jlen Z58 q57 = 6 := by rw [eZ58]; exact jlen_nw
  have k61 := (yZ58 _ _ k56).1
  have hx : jext Z Z58 := jext_trans hx yZ58
  refine j_putrF E hini 12 11 rfl rfl (by decide) (by decide) (iw iT_12) tyX12_ok nmX12 rfl rfl (tw W_800) rfl rfl k61 dX12_init_74 ?_
  refine j_nmZ (fun Z62 eZ62 => ?_)
  have h := h Z62 eZ62
  have yZ62 : jext Z58 Z62 := by rw [eZ62]; exact jext_putr
  have k63 := (yZ62 _ _ k61).1
  have hx : jext Z Z62 := jext_trans hx yZ62
  refine j_aload_n E dX12_init_77 0 rfl ?_
  refine j_bipush E (v := 6) dX12_init_78 (by decide) ?_
  refine j_newaI E 6 (by decide) (by decide) (by decide) (tw W_966) (by decide) (by decide) dX12_init_80 (fun q64 nq64 => ?_)
  refine j_nmZ (fun Z65 eZ65 => ?_)
  refine j_nmI (fun I66 eI66 => ?_)
  refine j_nmL (fun L67 eL67 => ?_)
  have h := h q64 nq64 Z65 eZ65 I66 eI66 L67 eL67
  have yZ65 : jext Z62 Z65 := by rw [eZ65]; exact jext_nw nq64
  have kq64 : jk Z65 q64 14 := by rw [eZ65]; exact jk_nw
  have lq64 : jlen Z65 q64 = 6 := by rw [eZ65]; exact jlen_nw
  have k68 := (yZ65 _ _ k63).1
  have hx : jext Z Z65 := jext_trans hx yZ65
  refine j_putrF E hini 12 12 rfl rfl (by decide) (by decide) (iw iT_12) tyX12_ok nmX12 rfl rfl (tw W_801) rfl rfl k68 dX12_init_82 ?_
  refine j_nmZ (fun Z69 eZ69 => ?_)
  have h := h Z69 eZ69
  have yZ69 : jext Z65 Z69 := by rw [eZ69]; exact jext_putr
  have k70 := (yZ69 _ _ k68).1
  have hx : jext Z Z69 := jext_trans hx yZ69
  refine j_aload_n E dX12_init_85 0 rfl ?_
  refine j_bipush E (v := 6) dX12_init_86 (by decide) ?_
  refine j_newaI E 6 (by decide) (by decide) (by decide) (tw W_966) (by decide) (by decide) dX12_init_88 (fun q71 nq71 => ?_)
  refine j_nmZ (fun Z72 eZ72 => ?_)
  refine j_nmI (fun I73 eI73 => ?_)
  refine j_nmL (fun L74 eL74 => ?_)
  have h := h q71 nq71 Z72 eZ72 I73 eI73 L74 eL74
  have yZ72 : jext Z69 Z72 := by rw [eZ72]; exact jext_nw nq71
  have kq71 : jk Z72 q71 14 := by rw [eZ72]; exact jk_nw
  have lq71 : jlen Z72 q71 = 6 := by rw [eZ72]; exact jlen_nw
  have k75 := (yZ72 _ _ k70).1
  have hx : jext Z Z72 := jext_trans hx yZ72
  refine j_putrF E hini 12 13 rfl rfl (by decide) (by decide) (iw iT_12) tyX12_ok nmX12 rfl rfl (tw W_802) rfl rfl k75 dX12_init_90 ?_
  refine j_nmZ (fun Z76 eZ76 => ?_)
  have h := h Z76 eZ76
  have yZ76 : jext Z72 Z76 := by rw [eZ76]; exact jext_putr
  have k77 := (yZ76 _ _ k75).1
  have hx : jext Z Z76 := jext_trans hx yZ76
  refine j_aload_n E dX12_init_93 0 rfl ?_
  refine j_bipush E (v := 6) dX12_init_94 (by decide) ?_
  refine j_newaI E 6 (by decide) (by decide) (by decide) (tw W_966) (by decide) (by decide) dX12_init_96 (fun q78 nq78 => ?_)
  refine j_nmZ (fun Z79 eZ79 => ?_)
  refine j_nmI (fun I80 eI80 => ?_)
  refine j_nmL (fun L81 eL81 => ?_)
  have h := h q78 nq78 Z79 eZ79 I80 eI80 L81 eL81
  have yZ79 : jext Z76 Z79 := by rw [eZ79]; exact jext_nw nq78
  have kq78 : jk Z79 q78 14 := by rw [eZ79]; exact jk_nw
  have lq78 : jlen Z79 q78 = 6 := by rw [eZ79]; exact jlen_nw
  have k82 := (yZ79 _ _ k77).1
  have hx : jext Z Z79 := jext_trans hx yZ79
  refine j_putrF E hini 12 14 rfl rfl (by decide) (by decide) (iw iT_12) tyX12_ok nmX12 rfl rfl (tw W_732) rfl rfl k82 dX12_init_98 ?_
  refine j_nmZ (fun Z83 eZ83 => ?_)
  have h := h Z83 eZ83
  have yZ83 : jext Z79 Z83 := by rw [eZ83]; exact jext_putr
  have k84 := (yZ83 _ _ k82).1
  have hx : jext Z Z83 := jext_trans hx yZ83
  refine j_aload_n E dX12_init_101 0 rfl ?_
  refine j_bipush E (v := 6) dX12_init_102 (by decide) ?_
  refine j_newaI E 6 (by decide) (by decide) (by decide) (tw W_966) (by decide) (by decide) dX12_init_104 (fun q85 nq85 => ?_)
  refine j_nmZ (fun Z86 eZ86 => ?_)
  refine j_nmI (fun I87 eI87 => ?_)
  refine j_nmL (fun L88 eL88 => ?_)
  have h := h q85 nq85 Z86 eZ86 I87 eI87 L88 eL88
  have yZ86 : jext Z83 Z86 := by rw [eZ86]; exact jext_nw nq85
  have kq85 : jk Z86 q85 14 := by rw [eZ86]; exact jk_nw
  have lq85 : jlen Z86 q85 = 6 := by rw [eZ86]; exact jlen_nw
  have k89 := (yZ86 _ _ k84).1
  have hx : jext Z Z86 := jext_trans hx yZ86
  refine j_putrF E hini 12 15 rfl rfl (by decide) (by decide) (iw iT_12) tyX12_ok nmX12 rfl rfl (tw W_733) rfl rfl k89 dX12_init_106 ?_
  refine j_nmZ (fun Z90 eZ90 => ?_)
  have h := h Z90 eZ90
  have yZ90 : jext Z86 Z90 := by rw [eZ90]; exact jext_putr
  have k91 := (yZ90 _ _ k89).1
  have hx : jext Z Z90 := jext_trans hx yZ90
  refine j_aload_n E dX12_init_109 0 rfl ?_
  refine j_bipush E (v := 6) dX12_init_110 (by decide) ?_
  refine j_newaI E 6 (by decide) (by decide) (by decide) (tw W_966) (by decide) (by decide) dX12_init_112 (fun q92 nq92 => ?_)
  refine j_nmZ (fun Z93 eZ93 => ?_)
  refine j_nmI (fun I94 eI94 => ?_)
  refine j_nmL (fun L95 eL95 => ?_)
  have h := h q92 nq92 Z93 eZ93 I94 eI94 L95 eL95
  have yZ93 : jext Z90 Z93 := by rw [eZ93]; exact jext_nw nq92
  have kq92 : jk Z93 q92 14 := by rw [eZ93]; exact jk_nw
  have lq92 : jlen Z93 q92 = 6 := by rw [eZ93]; exact jlen_nw
  have k96 := (yZ93 _ _ k91).1
  have hx : jext Z Z93 := jext_trans hx yZ93
  refine j_putrF E hini 12 16 rfl rfl (by decide) (by decide) (iw iT_12) tyX12_ok nmX12 rfl rfl (tw W_735) rfl rfl k96 dX12_init_114 ?_
  refine j_nmZ (fun Z97 eZ97 => ?_)
  have h := h Z97 eZ97
  have yZ97 : jext Z93 Z97 := by rw [eZ97]; exact jext_putr
  have k98 := (yZ97 _ _ k96).1
  have hx : jext Z Z97 := jext_trans hx yZ97
  refine j_aload_n E dX12_init_117 0 rfl ?_
  refine j_bipush E (v := 8) dX12_init_118 (by decide) ?_
  refine j_newaI E 8 (by decide) (by decide) (by decide) (tw W_966) (by decide) (by decide) dX12_init_120 (fun q99 nq99 => ?_)
  refine j_nmZ (fun Z100 eZ100 => ?_)
  refine j_nmI (fun I101 eI101 => ?_)
  refine j_nmL (fun L102 eL102 => ?_)
  have h := h q99 nq99 Z100 eZ100 I101 eI101 L102 eL102
  have yZ100 : jext Z97 Z100 := by rw [eZ100]; exact jext_nw nq99
  have kq99 : jk Z100 q99 14 := by rw [eZ100]; exact jk_nw
  have lq99 : jlen Z100 q99 = 8 := by rw [eZ100]; exact jlen_nw
  have k103 := (yZ100 _ _ k98).1
  have hx : jext Z Z100 := jext_trans hx yZ100
  refine j_putrF E hini 12 17 rfl rfl (by decide) (by decide) (iw iT_12) tyX12_ok nmX12 rfl rfl (tw W_737) rfl rfl k103 dX12_init_122 ?_
  refine j_nmZ (fun Z104 eZ104 => ?_)
  have h := h Z104 eZ104
  have yZ104 : jext Z100 Z104 := by rw [eZ104]; exact jext_putr
  have k105 := (yZ104 _ _ k103).1
  have hx : jext Z Z104 := jext_trans hx yZ104
  refine j_aload_n E dX12_init_125 0 rfl ?_
  refine j_bipush E (v := 80) dX12_init_126 (by decide) ?_
  refine j_newaB E 80 (by decide) (by decide) (by decide) (tw W_964) (by decide) (by decide) dX12_init_128 (fun q106 nq106 => ?_)
  refine j_nmZ (fun Z107 eZ107 => ?_)
  refine j_nmI (fun I108 eI108 => ?_)
  refine j_nmL (fun L109 eL109 => ?_)
  have h := h q106 nq106 Z107 eZ107 I108 eI108 L109 eL109
  have yZ107 : jext Z104 Z107 := by rw [eZ107]; exact jext_nw nq106
  have kq106 : jk Z107 q106 13 := by rw [eZ107]; exact jk_nw
  have lq106 : jlen Z107 q106 = 80 := by rw [eZ107]; exact jlen_nw
  have k110 := (yZ107 _ _ k105).1
  have hx : jext Z Z107 := jext_trans hx yZ107
  refine j_putrF E hini 12 18 rfl rfl (by decide) (by decide) (iw iT_12) tyX12_ok nmX12 rfl rfl (tw W_701) rfl rfl k110 dX12_init_130 ?_
  refine j_nmZ (fun Z111 eZ111 => ?_)
  have h := h Z111 eZ111
  have yZ111 : jext Z107 Z111 := by rw [eZ111]; exact jext_putr
  have k112 := (yZ111 _ _ k110).1
  have hx : jext Z Z111 := jext_trans hx yZ111
  refine j_aload_n E dX12_init_133 0 rfl ?_
  refine j_bipush E (v := 40) dX12_init_134 (by decide) ?_
  refine j_newaJ E 40 (by decide) (by decide) (by decide) (tw W_5) (by decide) (by decide) dX12_init_136 (fun q113 nq113 => ?_)
  refine j_nmZ (fun Z114 eZ114 => ?_)
  refine j_nmI (fun I115 eI115 => ?_)
  refine j_nmL (fun L116 eL116 => ?_)
  have h := h q113 nq113 Z114 eZ114 I115 eI115 L116 eL116
  have yZ114 : jext Z111 Z114 := by rw [eZ114]; exact jext_nw nq113
  have kq113 : jk Z114 q113 15 := by rw [eZ114]; exact jk_nw
  have lq113 : jlen Z114 q113 = 40 := by rw [eZ114]; exact jlen_nw
  have k117 := (yZ114 _ _ k112).1
  have hx : jext Z Z114 := jext_trans hx yZ114
  refine j_putrF E hini 12 20 rfl rfl (by decide) (by decide) (iw iT_12) tyX12_ok nmX12 rfl rfl (tw W_691) rfl rfl k117 dX12_init_138 ?_
  refine j_nmZ (fun Z118 eZ118 => ?_)
  have h := h Z118 eZ118
  have yZ118 : jext Z114 Z118 := by rw [eZ118]; exact jext_putr
  have k119 := (yZ118 _ _ k117).1
  have hx : jext Z Z118 := jext_trans hx yZ118
  refine j_aload_n E dX12_init_141 0 rfl ?_
  refine j_bipush E (v := 120) dX12_init_142 (by decide) ?_
  refine j_newaI E 120 (by decide) (by decide) (by decide) (tw W_966) (by decide) (by decide) dX12_init_144 (fun q120 nq120 => ?_)
  refine j_nmZ (fun Z121 eZ121 => ?_)
  refine j_nmI (fun I122 eI122 => ?_)
  refine j_nmL (fun L123 eL123 => ?_)
  have h := h q120 nq120 Z121 eZ121 I122 eI122 L123 eL123
  have yZ121 : jext Z118 Z121 := by rw [eZ121]; exact jext_nw nq120
  have kq120 : jk Z121 q120 14 := by rw [eZ121]; exact jk_nw
  have lq120 : jlen Z121 q120 = 120 := by rw [eZ121]; exact jlen_nw
  have k124 := (yZ121 _ _ k119).1
  have hx : jext Z Z121 := jext_trans hx yZ121
  refine j_putrF E hini 12 28 rfl rfl (by decide) (by decide) (iw iT_12) tyX12_ok nmX12 rfl rfl (tw W_723) rfl rfl k124 dX12_init_146 ?_
  refine j_nmZ (fun Z125 eZ125 => ?_)
  have h := h Z125 eZ125
  have yZ125 : jext Z121 Z125 := by rw [eZ125]; exact jext_putr
  have k126 := (yZ125 _ _ k124).1
  have hx : jext Z Z125 := jext_trans hx yZ125
  refine j_aload_n E dX12_init_149 0 rfl ?_
  refine j_iconst E (v := 2) dX12_init_150 (by decide) ?_
  refine j_bipush E (v := 40) dX12_init_151 (by decide) ?_
  refine j_mna E (tw W_1027) (tw W_964) (by decide) (by decide) dX12_init_153 (fun q128 q129 q127 nq128 nq129 nq127 => ?_)
  refine j_nmZ (fun Z130 eZ130 => ?_)
  refine j_nmI (fun I131 eI131 => ?_)
  refine j_nmL (fun L132 eL132 => ?_)
  have h := h q128 q129 q127 nq128 nq129 nq127 Z130 eZ130 I131 eI131 L132 eL132
  have yZ130 : jext Z125 Z130 := by rw [eZ130]; exact jext_trans (jext_nw nq128) (jext_trans (jext_nw nq129) (jext_trans (jext_nw nq127) (jext_trans jext_putr jext_putr)))
  have kq127 : jk Z130 q127 19 := by rw [eZ130]; exact jk_nw (m := 2)
  have lq127 : jlen Z130 q127 = 2 := by rw [eZ130]; exact jlen_nw (k := 19)
  have k133 := (yZ130 _ _ k126).1
  have hx : jext Z Z130 := jext_trans hx yZ130
  refine j_putrF E hini 12 29 rfl rfl (by decide) (by decide) (iw iT_12) tyX12_ok nmX12 rfl rfl (tw W_782) rfl rfl k133 dX12_init_157 ?_
  refine j_nmZ (fun Z134 eZ134 => ?_)
  have h := h Z134 eZ134
  have yZ134 : jext Z130 Z134 := by rw [eZ134]; exact jext_putr
  have k135 := (yZ134 _ _ k133).1
  have hx : jext Z Z134 := jext_trans hx yZ134
  refine j_aload_n E dX12_init_160 0 rfl ?_
  refine j_iconst E (v := 2) dX12_init_161 (by decide) ?_
  refine j_newaI E 2 (by decide) (by decide) (by decide) (tw W_966) (by decide) (by decide) dX12_init_162 (fun q136 nq136 => ?_)
  refine j_nmZ (fun Z137 eZ137 => ?_)
  refine j_nmI (fun I138 eI138 => ?_)
  refine j_nmL (fun L139 eL139 => ?_)
  have h := h q136 nq136 Z137 eZ137 I138 eI138 L139 eL139
  have yZ137 : jext Z134 Z137 := by rw [eZ137]; exact jext_nw nq136
  have kq136 : jk Z137 q136 14 := by rw [eZ137]; exact jk_nw
  have lq136 : jlen Z137 q136 = 2 := by rw [eZ137]; exact jlen_nw
  have k140 := (yZ137 _ _ k135).1
  have hx : jext Z Z137 := jext_trans hx yZ137
  refine j_putrF E hini 12 30 rfl rfl (by decide) (by decide) (iw iT_12) tyX12_ok nmX12 rfl rfl (tw W_781) rfl rfl k140 dX12_init_164 ?_
  refine j_nmZ (fun Z141 eZ141 => ?_)
  have h := h Z141 eZ141
  have yZ141 : jext Z137 Z141 := by rw [eZ141]; exact jext_putr
  have k142 := (yZ141 _ _ k140).1
  have hx : jext Z Z141 := jext_trans hx yZ141
  refine j_aload_n E dX12_init_167 0 rfl ?_
  refine j_iconst E (v := -1) dX12_init_168 (by decide) ?_
  refine j_puti E 12 31 rfl rfl (by decide) (by decide) (iw iT_12) tyX12_ok nmX12 rfl rfl (tw W_752) rfl rfl rfl k142 dX12_init_169 ?_
  refine j_nmI (fun I143 eI143 => ?_)
  have h := h I143 eI143
  refine j_aload_n E dX12_init_172 0 rfl ?_
  refine j_bipush E (v := 8) dX12_init_173 (by decide) ?_
  refine j_newaI E 8 (by decide) (by decide) (by decide) (tw W_966) (by decide) (by decide) dX12_init_175 (fun q144 nq144 => ?_)
  refine j_nmZ (fun Z145 eZ145 => ?_)
  refine j_nmI (fun I146 eI146 => ?_)
  refine j_nmL (fun L147 eL147 => ?_)
  have h := h q144 nq144 Z145 eZ145 I146 eI146 L147 eL147
  have yZ145 : jext Z141 Z145 := by rw [eZ145]; exact jext_nw nq144
  have kq144 : jk Z145 q144 14 := by rw [eZ145]; exact jk_nw
  have lq144 : jlen Z145 q144 = 8 := by rw [eZ145]; exact jlen_nw
  have k148 := (yZ145 _ _ k142).1
  have hx : jext Z Z145 := jext_trans hx yZ145
  refine j_putrF E hini 12 35 rfl rfl (by decide) (by decide) (iw iT_12) tyX12_ok nmX12 rfl rfl (tw W_827) rfl rfl k148 dX12_init_177 ?_
  refine j_nmZ (fun Z149 eZ149 => ?_)
  have h := h Z149 eZ149
  have yZ149 : jext Z145 Z149 := by rw [eZ149]; exact jext_putr
  have k150 := (yZ149 _ _ k148).1
  have hx : jext Z Z149 := jext_trans hx yZ149
  refine j_aload_n E dX12_init_180 0 rfl ?_
  refine j_bipush E (v := 8) dX12_init_181 (by decide) ?_
  refine j_newaJ E 8 (by decide) (by decide) (by decide) (tw W_5) (by decide) (by decide) dX12_init_183 (fun q151 nq151 => ?_)
  refine j_nmZ (fun Z152 eZ152 => ?_)
  refine j_nmI (fun I153 eI153 => ?_)
  refine j_nmL (fun L154 eL154 => ?_)
  have h := h q151 nq151 Z152 eZ152 I153 eI153 L154 eL154
  have yZ152 : jext Z149 Z152 := by rw [eZ152]; exact jext_nw nq151
  have kq151 : jk Z152 q151 15 := by rw [eZ152]; exact jk_nw
  have lq151 : jlen Z152 q151 = 8 := by rw [eZ152]; exact jlen_nw
  have k155 := (yZ152 _ _ k150).1
  have hx : jext Z Z152 := jext_trans hx yZ152
  refine j_putrF E hini 12 36 rfl rfl (by decide) (by decide) (iw iT_12) tyX12_ok nmX12 rfl rfl (tw W_828) rfl rfl k155 dX12_init_185 ?_
  refine j_nmZ (fun Z156 eZ156 => ?_)
  have h := h Z156 eZ156
  have yZ156 : jext Z152 Z156 := by rw [eZ156]; exact jext_putr
  have k157 := (yZ156 _ _ k155).1
  have hx : jext Z Z156 := jext_trans hx yZ156
  refine j_aload_n E dX12_init_188 0 rfl ?_
  refine j_bipush E (v := 75) dX12_init_189 (by decide) ?_
  refine j_newaI E 75 (by decide) (by decide) (by decide) (tw W_966) (by decide) (by decide) dX12_init_191 (fun q158 nq158 => ?_)
  refine j_nmZ (fun Z159 eZ159 => ?_)
  refine j_nmI (fun I160 eI160 => ?_)
  refine j_nmL (fun L161 eL161 => ?_)
  have h := h q158 nq158 Z159 eZ159 I160 eI160 L161 eL161
  have yZ159 : jext Z156 Z159 := by rw [eZ159]; exact jext_nw nq158
  have kq158 : jk Z159 q158 14 := by rw [eZ159]; exact jk_nw
  have lq158 : jlen Z159 q158 = 75 := by rw [eZ159]; exact jlen_nw
  have k162 := (yZ159 _ _ k157).1
  have hx : jext Z Z159 := jext_trans hx yZ159
  refine j_putrF E hini 12 37 rfl rfl (by decide) (by decide) (iw iT_12) tyX12_ok nmX12 rfl rfl (tw W_842) rfl rfl k162 dX12_init_193 ?_
  refine j_nmZ (fun Z163 eZ163 => ?_)
  have h := h Z163 eZ163
  have yZ163 : jext Z159 Z163 := by rw [eZ163]; exact jext_putr
  have k164 := (yZ163 _ _ k162).1
  have hx : jext Z Z163 := jext_trans hx yZ163
  refine j_aload_n E dX12_init_196 0 rfl ?_
  refine j_bipush E (v := 75) dX12_init_197 (by decide) ?_
  refine j_newaI E 75 (by decide) (by decide) (by decide) (tw W_966) (by decide) (by decide) dX12_init_199 (fun q165 nq165 => ?_)
  refine j_nmZ (fun Z166 eZ166 => ?_)
  refine j_nmI (fun I167 eI167 => ?_)
  refine j_nmL (fun L168 eL168 => ?_)
  have h := h q165 nq165 Z166 eZ166 I167 eI167 L168 eL168
  have yZ166 : jext Z163 Z166 := by rw [eZ166]; exact jext_nw nq165
  have kq165 : jk Z166 q165 14 := by rw [eZ166]; exact jk_nw
  have lq165 : jlen Z166 q165 = 75 := by rw [eZ166]; exact jlen_nw
  have k169 := (yZ166 _ _ k164).1
  have hx : jext Z Z166 := jext_trans hx yZ166
  refine j_putrF E hini 12 38 rfl rfl (by decide) (by decide) (iw iT_12) tyX12_ok nmX12 rfl rfl (tw W_845) rfl rfl k169 dX12_init_201 ?_
  refine j_nmZ (fun Z170 eZ170 => ?_)
  have h := h Z170 eZ170
  have yZ170 : jext Z166 Z170 := by rw [eZ170]; exact jext_putr
  have k171 := (yZ170 _ _ k169).1
  have hx : jext Z Z170 := jext_trans hx yZ170
  refine j_aload_n E dX12_init_204 0 rfl ?_
  refine j_iconst E (v := -1) dX12_init_205 (by decide) ?_
  refine j_puti E 12 39 rfl rfl (by decide) (by decide) (iw iT_12) tyX12_ok nmX12 rfl rfl (tw W_844) rfl rfl rfl k171 dX12_init_206 ?_
  refine j_nmI (fun I172 eI172 => ?_)
  have h := h I172 eI172
  refine j_aload_n E dX12_init_209 0 rfl ?_
  refine j_sipush E (v := 25000) dX12_init_210 (by decide) ?_
  refine j_newaI E 25000 (by decide) (by decide) (by decide) (tw W_966) (by decide) (by decide) dX12_init_213 (fun q173 nq173 => ?_)
  refine j_nmZ (fun Z174 eZ174 => ?_)
  refine j_nmI (fun I175 eI175 => ?_)
  refine j_nmL (fun L176 eL176 => ?_)
  have h := h q173 nq173 Z174 eZ174 I175 eI175 L176 eL176
  have yZ174 : jext Z170 Z174 := by rw [eZ174]; exact jext_nw nq173
  have kq173 : jk Z174 q173 14 := by rw [eZ174]; exact jk_nw
  have lq173 : jlen Z174 q173 = 25000 := by rw [eZ174]; exact jlen_nw
  have k177 := (yZ174 _ _ k171).1
  have hx : jext Z Z174 := jext_trans hx yZ174
  refine j_putrF E hini 12 40 rfl rfl (by decide) (by decide) (iw iT_12) tyX12_ok nmX12 rfl rfl (tw W_846) rfl rfl k177 dX12_init_215 ?_
  refine j_nmZ (fun Z178 eZ178 => ?_)
  have h := h Z178 eZ178
  have yZ178 : jext Z174 Z178 := by rw [eZ178]; exact jext_putr
  have k179 := (yZ178 _ _ k177).1
  have hx : jext Z Z178 := jext_trans hx yZ178
  refine j_aload_n E dX12_init_218 0 rfl ?_
  refine j_bipush E (v := 24) dX12_init_219 (by decide) ?_
  refine j_newaI E 24 (by decide) (by decide) (by decide) (tw W_966) (by decide) (by decide) dX12_init_221 (fun q180 nq180 => ?_)
  refine j_nmZ (fun Z181 eZ181 => ?_)
  refine j_nmI (fun I182 eI182 => ?_)
  refine j_nmL (fun L183 eL183 => ?_)
  have h := h q180 nq180 Z181 eZ181 I182 eI182 L183 eL183
  have yZ181 : jext Z178 Z181 := by rw [eZ181]; exact jext_nw nq180
  have kq180 : jk Z181 q180 14 := by rw [eZ181]; exact jk_nw
  have lq180 : jlen Z181 q180 = 24 := by rw [eZ181]; exact jlen_nw
  have k184 := (yZ181 _ _ k179).1
  have hx : jext Z Z181 := jext_trans hx yZ181
  refine j_putrF E hini 12 44 rfl rfl (by decide) (by decide) (iw iT_12) tyX12_ok nmX12 rfl rfl (tw W_851) rfl rfl k184 dX12_init_223 ?_
  refine j_nmZ (fun Z185 eZ185 => ?_)
  have h := h Z185 eZ185
  have yZ185 : jext Z181 Z185 := by rw [eZ185]; exact jext_putr
  have k186 := (yZ185 _ _ k184).1
  have hx : jext Z Z185 := jext_trans hx yZ185
  refine j_aload_n E dX12_init_226 0 rfl ?_
  refine j_ldc E (tw W_1028) dX12_init_227 ?_
  refine j_newaI E 484000 (by decide) (by decide) (by decide) (tw W_966) (by decide) (by decide) dX12_init_229 (fun q187 nq187 => ?_)
  refine j_nmZ (fun Z188 eZ188 => ?_)
  refine j_nmI (fun I189 eI189 => ?_)
  refine j_nmL (fun L190 eL190 => ?_)
  have h := h q187 nq187 Z188 eZ188 I189 eI189 L190 eL190
  have yZ188 : jext Z185 Z188 := by rw [eZ188]; exact jext_nw nq187
  have kq187 : jk Z188 q187 14 := by rw [eZ188]; exact jk_nw
  have lq187 : jlen Z188 q187 = 484000 := by rw [eZ188]; exact jlen_nw
  have k191 := (yZ188 _ _ k186).1
  have hx : jext Z Z188 := jext_trans hx yZ188
  refine j_putrF E hini 12 45 rfl rfl (by decide) (by decide) (iw iT_12) tyX12_ok nmX12 rfl rfl (tw W_867) rfl rfl k191 dX12_init_231 ?_
  refine j_nmZ (fun Z192 eZ192 => ?_)
  have h := h Z192 eZ192
  have yZ192 : jext Z188 Z192 := by rw [eZ192]; exact jext_putr
  have k193 := (yZ192 _ _ k191).1
  have hx : jext Z Z192 := jext_trans hx yZ192
  refine j_aload_n E dX12_init_234 0 rfl ?_
  refine j_sipush E (v := 1536) dX12_init_235 (by decide) ?_
  refine j_newaI E 1536 (by decide) (by decide) (by decide) (tw W_966) (by decide) (by decide) dX12_init_238 (fun q194 nq194 => ?_)
  refine j_nmZ (fun Z195 eZ195 => ?_)
  refine j_nmI (fun I196 eI196 => ?_)
  refine j_nmL (fun L197 eL197 => ?_)
  have h := h q194 nq194 Z195 eZ195 I196 eI196 L197 eL197
  have yZ195 : jext Z192 Z195 := by rw [eZ195]; exact jext_nw nq194
  have kq194 : jk Z195 q194 14 := by rw [eZ195]; exact jk_nw
  have lq194 : jlen Z195 q194 = 1536 := by rw [eZ195]; exact jlen_nw
  have k198 := (yZ195 _ _ k193).1
  have hx : jext Z Z195 := jext_trans hx yZ195
  refine j_putrF E hini 12 53 rfl rfl (by decide) (by decide) (iw iT_12) tyX12_ok nmX12 rfl rfl (tw W_909) rfl rfl k198 dX12_init_240 ?_
  refine j_nmZ (fun Z199 eZ199 => ?_)
  have h := h Z199 eZ199
  have yZ199 : jext Z195 Z199 := by rw [eZ199]; exact jext_putr
  have k200 := (yZ199 _ _ k198).1
  have hx : jext Z Z199 := jext_trans hx yZ199
  refine j_aload_n E dX12_init_243 0 rfl ?_
  refine j_sipush E (v := 192) dX12_init_244 (by decide) ?_
  refine j_newaI E 192 (by decide) (by decide) (by decide) (tw W_966) (by decide) (by decide) dX12_init_247 (fun q201 nq201 => ?_)
  refine j_nmZ (fun Z202 eZ202 => ?_)
  refine j_nmI (fun I203 eI203 => ?_)
  refine j_nmL (fun L204 eL204 => ?_)
  have h := h q201 nq201 Z202 eZ202 I203 eI203 L204 eL204
  have yZ202 : jext Z199 Z202 := by rw [eZ202]; exact jext_nw nq201
  have kq201 : jk Z202 q201 14 := by rw [eZ202]; exact jk_nw
  have lq201 : jlen Z202 q201 = 192 := by rw [eZ202]; exact jlen_nw
  have k205 := (yZ202 _ _ k200).1
  have hx : jext Z Z202 := jext_trans hx yZ202
  refine j_putrF E hini 12 54 rfl rfl (by decide) (by decide) (iw iT_12) tyX12_ok nmX12 rfl rfl (tw W_910) rfl rfl k205 dX12_init_249 ?_
  refine j_nmZ (fun Z206 eZ206 => ?_)
  have h := h Z206 eZ206
  have yZ206 : jext Z202 Z206 := by rw [eZ206]; exact jext_putr
  have k207 := (yZ206 _ _ k205).1
  have hx : jext Z Z206 := jext_trans hx yZ206
  refine j_aload_n E dX12_init_252 0 rfl ?_
  refine j_sipush E (v := 144) dX12_init_253 (by decide) ?_
  refine j_newaI E 144 (by decide) (by decide) (by decide) (tw W_966) (by decide) (by decide) dX12_init_256 (fun q208 nq208 => ?_)
  refine j_nmZ (fun Z209 eZ209 => ?_)
  refine j_nmI (fun I210 eI210 => ?_)
  refine j_nmL (fun L211 eL211 => ?_)
  have h := h q208 nq208 Z209 eZ209 I210 eI210 L211 eL211
  have yZ209 : jext Z206 Z209 := by rw [eZ209]; exact jext_nw nq208
  have kq208 : jk Z209 q208 14 := by rw [eZ209]; exact jk_nw
  have lq208 : jlen Z209 q208 = 144 := by rw [eZ209]; exact jlen_nw
  have k212 := (yZ209 _ _ k207).1
  have hx : jext Z Z209 := jext_trans hx yZ209
  refine j_putrF E hini 12 55 rfl rfl (by decide) (by decide) (iw iT_12) tyX12_ok nmX12 rfl rfl (tw W_917) rfl rfl k212 dX12_init_258 ?_
  refine j_nmZ (fun Z213 eZ213 => ?_)
  have h := h Z213 eZ213
  have yZ213 : jext Z209 Z213 := by rw [eZ213]; exact jext_putr
  have k214 := (yZ213 _ _ k212).1
  have hx : jext Z Z213 := jext_trans hx yZ213
  refine j_aload_n E dX12_init_261 0 rfl ?_
  refine j_bipush E (v := 6) dX12_init_262 (by decide) ?_
  refine j_newaI E 6 (by decide) (by decide) (by decide) (tw W_966) (by decide) (by decide) dX12_init_264 (fun q215 nq215 => ?_)
  refine j_nmZ (fun Z216 eZ216 => ?_)
  refine j_nmI (fun I217 eI217 => ?_)
  refine j_nmL (fun L218 eL218 => ?_)
  have h := h q215 nq215 Z216 eZ216 I217 eI217 L218 eL218
  have yZ216 : jext Z213 Z216 := by rw [eZ216]; exact jext_nw nq215
  have kq215 : jk Z216 q215 14 := by rw [eZ216]; exact jk_nw
  have lq215 : jlen Z216 q215 = 6 := by rw [eZ216]; exact jlen_nw
  have k219 := (yZ216 _ _ k214).1
  have hx : jext Z Z216 := jext_trans hx yZ216
  refine j_putrF E hini 12 56 rfl rfl (by decide) (by decide) (iw iT_12) tyX12_ok nmX12 rfl rfl (tw W_918) rfl rfl k219 dX12_init_266 ?_
  refine j_nmZ (fun Z220 eZ220 => ?_)
  have h := h Z220 eZ220
  have yZ220 : jext Z216 Z220 := by rw [eZ220]; exact jext_putr
  have k221 := (yZ220 _ _ k219).1
  have hx : jext Z Z220 := jext_trans hx yZ220
  refine j_aload_n E dX12_init_269 0 rfl ?_
  refine j_bipush E (v := 6) dX12_init_270 (by decide) ?_
  refine j_newaI E 6 (by decide) (by decide) (by decide) (tw W_966) (by decide) (by decide) dX12_init_272 (fun q222 nq222 => ?_)
  refine j_nmZ (fun Z223 eZ223 => ?_)
  refine j_nmI (fun I224 eI224 => ?_)
  refine j_nmL (fun L225 eL225 => ?_)
  have h := h q222 nq222 Z223 eZ223 I224 eI224 L225 eL225
  have yZ223 : jext Z220 Z223 := by rw [eZ223]; exact jext_nw nq222
  have kq222 : jk Z223 q222 14 := by rw [eZ223]; exact jk_nw
  have lq222 : jlen Z223 q222 = 6 := by rw [eZ223]; exact jlen_nw
  have k226 := (yZ223 _ _ k221).1
  have hx : jext Z Z223 := jext_trans hx yZ223
  refine j_putrF E hini 12 57 rfl rfl (by decide) (by decide) (iw iT_12) tyX12_ok nmX12 rfl rfl (tw W_916) rfl rfl k226 dX12_init_274 ?_
  refine j_nmZ (fun Z227 eZ227 => ?_)
  have h := h Z227 eZ227
  have yZ227 : jext Z223 Z227 := by rw [eZ227]; exact jext_putr
  have k228 := (yZ227 _ _ k226).1
  have hx : jext Z Z227 := jext_trans hx yZ227
  refine j_aload_n E dX12_init_277 0 rfl ?_
  refine j_bipush E (v := 6) dX12_init_278 (by decide) ?_
  refine j_newaI E 6 (by decide) (by decide) (by decide) (tw W_966) (by decide) (by decide) dX12_init_280 (fun q229 nq229 => ?_)
  refine j_nmZ (fun Z230 eZ230 => ?_)
  refine j_nmI (fun I231 eI231 => ?_)
  refine j_nmL (fun L232 eL232 => ?_)
  have h := h q229 nq229 Z230 eZ230 I231 eI231 L232 eL232
  have yZ230 : jext Z227 Z230 := by rw [eZ230]; exact jext_nw nq229
  have kq229 : jk Z230 q229 14 := by rw [eZ230]; exact jk_nw
  have lq229 : jlen Z230 q229 = 6 := by rw [eZ230]; exact jlen_nw
  have k233 := (yZ230 _ _ k228).1
  have hx : jext Z Z230 := jext_trans hx yZ230
  refine j_putrF E hini 12 58 rfl rfl (by decide) (by decide) (iw iT_12) tyX12_ok nmX12 rfl rfl (tw W_929) rfl rfl k233 dX12_init_282 ?_
  refine j_nmZ (fun Z234 eZ234 => ?_)
  have h := h Z234 eZ234
  have yZ234 : jext Z230 Z234 := by rw [eZ234]; exact jext_putr
  have k235 := (yZ234 _ _ k233).1
  have hx : jext Z Z234 := jext_trans hx yZ234
  refine j_aload_n E dX12_init_285 0 rfl ?_
  refine j_bipush E (v := 24) dX12_init_286 (by decide) ?_
  refine j_newaI E 24 (by decide) (by decide) (by decide) (tw W_966) (by decide) (by decide) dX12_init_288 (fun q236 nq236 => ?_)
  refine j_nmZ (fun Z237 eZ237 => ?_)
  refine j_nmI (fun I238 eI238 => ?_)
  refine j_nmL (fun L239 eL239 => ?_)
  have h := h q236 nq236 Z237 eZ237 I238 eI238 L239 eL239
  have yZ237 : jext Z234 Z237 := by rw [eZ237]; exact jext_nw nq236
  have kq236 : jk Z237 q236 14 := by rw [eZ237]; exact jk_nw
  have lq236 : jlen Z237 q236 = 24 := by rw [eZ237]; exact jlen_nw
  have k240 := (yZ237 _ _ k235).1
  have hx : jext Z Z237 := jext_trans hx yZ237
  refine j_putrF E hini 12 59 rfl rfl (by decide) (by decide) (iw iT_12) tyX12_ok nmX12 rfl rfl (tw W_930) rfl rfl k240 dX12_init_290 ?_
  refine j_nmZ (fun Z241 eZ241 => ?_)
  have h := h Z241 eZ241
  have yZ241 : jext Z237 Z241 := by rw [eZ241]; exact jext_putr
  have k242 := (yZ241 _ _ k240).1
  have hx : jext Z Z241 := jext_trans hx yZ241
  refine j_aload_n E dX12_init_293 0 rfl ?_
  refine j_bipush E (v := 6) dX12_init_294 (by decide) ?_
  refine j_newaI E 6 (by decide) (by decide) (by decide) (tw W_966) (by decide) (by decide) dX12_init_296 (fun q243 nq243 => ?_)
  refine j_nmZ (fun Z244 eZ244 => ?_)
  refine j_nmI (fun I245 eI245 => ?_)
  refine j_nmL (fun L246 eL246 => ?_)
  have h := h q243 nq243 Z244 eZ244 I245 eI245 L246 eL246
  have yZ244 : jext Z241 Z244 := by rw [eZ244]; exact jext_nw nq243
  have kq243 : jk Z244 q243 14 := by rw [eZ244]; exact jk_nw
  have lq243 : jlen Z244 q243 = 6 := by rw [eZ244]; exact jlen_nw
  have k247 := (yZ244 _ _ k242).1
  have hx : jext Z Z244 := jext_trans hx yZ244
  refine j_putrF E hini 12 61 rfl rfl (by decide) (by decide) (iw iT_12) tyX12_ok nmX12 rfl rfl (tw W_928) rfl rfl k247 dX12_init_298 ?_
  refine j_nmZ (fun Z248 eZ248 => ?_)
  have h := h Z248 eZ248
  have yZ248 : jext Z244 Z248 := by rw [eZ248]; exact jext_putr
  have k249 := (yZ248 _ _ k247).1
  have hx : jext Z Z248 := jext_trans hx yZ248
  refine j_aload_n E dX12_init_301 0 rfl ?_
  refine j_sipush E (v := 532) dX12_init_302 (by decide) ?_
  refine j_newaI E 532 (by decide) (by decide) (by decide) (tw W_966) (by decide) (by decide) dX12_init_305 (fun q250 nq250 => ?_)
  refine j_nmZ (fun Z251 eZ251 => ?_)
  refine j_nmI (fun I252 eI252 => ?_)
  refine j_nmL (fun L253 eL253 => ?_)
  have h := h q250 nq250 Z251 eZ251 I252 eI252 L253 eL253
  have yZ251 : jext Z248 Z251 := by rw [eZ251]; exact jext_nw nq250
  have kq250 : jk Z251 q250 14 := by rw [eZ251]; exact jk_nw
  have lq250 : jlen Z251 q250 = 532 := by rw [eZ251]; exact jlen_nw
  have k254 := (yZ251 _ _ k249).1
  have hx : jext Z Z251 := jext_trans hx yZ251
  refine j_putrF E hini 12 62 rfl rfl (by decide) (by decide) (iw iT_12) tyX12_ok nmX12 rfl rfl (tw W_935) rfl rfl k254 dX12_init_307 ?_
  refine j_nmZ (fun Z255 eZ255 => ?_)
  have h := h Z255 eZ255
  have yZ255 : jext Z251 Z255 := by rw [eZ255]; exact jext_putr
  have k256 := (yZ255 _ _ k254).1
  have hx : jext Z Z255 := jext_trans hx yZ255
  refine j_aload_n E dX12_init_310 0 rfl ?_
  refine j_iconst E (v := 2) dX12_init_311 (by decide) ?_
  refine j_newaZ E 2 (by decide) (by decide) (by decide) (tw W_985) (by decide) (by decide) dX12_init_312 (fun q257 nq257 => ?_)
  refine j_nmZ (fun Z258 eZ258 => ?_)
  refine j_nmI (fun I259 eI259 => ?_)
  refine j_nmL (fun L260 eL260 => ?_)
  have h := h q257 nq257 Z258 eZ258 I259 eI259 L260 eL260
  have yZ258 : jext Z255 Z258 := by rw [eZ258]; exact jext_nw nq257
  have kq257 : jk Z258 q257 16 := by rw [eZ258]; exact jk_nw
  have lq257 : jlen Z258 q257 = 2 := by rw [eZ258]; exact jlen_nw
  have k261 := (yZ258 _ _ k256).1
  have hx : jext Z Z258 := jext_trans hx yZ258
  refine j_putrF E hini 12 63 rfl rfl (by decide) (by decide) (iw iT_12) tyX12_ok nmX12 rfl rfl (tw W_941) rfl rfl k261 dX12_init_314 ?_
  refine j_nmZ (fun Z262 eZ262 => ?_)
  have h := h Z262 eZ262
  have yZ262 : jext Z258 Z262 := by rw [eZ262]; exact jext_putr
  have k263 := (yZ262 _ _ k261).1
  have hx : jext Z Z262 := jext_trans hx yZ262
  refine j_aload_n E dX12_init_317 0 rfl ?_
  refine j_iconst E (v := 2) dX12_init_318 (by decide) ?_
  refine j_newaI E 2 (by decide) (by decide) (by decide) (tw W_966) (by decide) (by decide) dX12_init_319 (fun q264 nq264 => ?_)
  refine j_nmZ (fun Z265 eZ265 => ?_)
  refine j_nmI (fun I266 eI266 => ?_)
  refine j_nmL (fun L267 eL267 => ?_)
  have h := h q264 nq264 Z265 eZ265 I266 eI266 L267 eL267
  have yZ265 : jext Z262 Z265 := by rw [eZ265]; exact jext_nw nq264
  have kq264 : jk Z265 q264 14 := by rw [eZ265]; exact jk_nw
  have lq264 : jlen Z265 q264 = 2 := by rw [eZ265]; exact jlen_nw
  have k268 := (yZ265 _ _ k263).1
  have hx : jext Z Z265 := jext_trans hx yZ265
  refine j_putrF E hini 12 64 rfl rfl (by decide) (by decide) (iw iT_12) tyX12_ok nmX12 rfl rfl (tw W_942) rfl rfl k268 dX12_init_321 ?_
  refine j_nmZ (fun Z269 eZ269 => ?_)
  have h := h Z269 eZ269
  have yZ269 : jext Z265 Z269 := by rw [eZ269]; exact jext_putr
  have k270 := (yZ269 _ _ k268).1
  have hx : jext Z Z269 := jext_trans hx yZ269
  refine j_aload_n E dX12_init_324 0 rfl ?_
  refine j_iconst E (v := 2) dX12_init_325 (by decide) ?_
  refine j_newaI E 2 (by decide) (by decide) (by decide) (tw W_966) (by decide) (by decide) dX12_init_326 (fun q271 nq271 => ?_)
  refine j_nmZ (fun Z272 eZ272 => ?_)
  refine j_nmI (fun I273 eI273 => ?_)
  refine j_nmL (fun L274 eL274 => ?_)
  have h := h q271 nq271 Z272 eZ272 I273 eI273 L274 eL274
  have yZ272 : jext Z269 Z272 := by rw [eZ272]; exact jext_nw nq271
  have kq271 : jk Z272 q271 14 := by rw [eZ272]; exact jk_nw
  have lq271 : jlen Z272 q271 = 2 := by rw [eZ272]; exact jlen_nw
  have k275 := (yZ272 _ _ k270).1
  have hx : jext Z Z272 := jext_trans hx yZ272
  refine j_putrF E hini 12 65 rfl rfl (by decide) (by decide) (iw iT_12) tyX12_ok nmX12 rfl rfl (tw W_943) rfl rfl k275 dX12_init_328 ?_
  refine j_nmZ (fun Z276 eZ276 => ?_)
  have h := h Z276 eZ276
  have yZ276 : jext Z272 Z276 := by rw [eZ276]; exact jext_putr
  have k277 := (yZ276 _ _ k275).1
  have hx : jext Z Z276 := jext_trans hx yZ276
  exact j_return E ⟨hx, rfl, h⟩ (by decide) (by decide) dX12_init_331
end
