/-! laid by wip/whole/gen.py: what the methods of the reference do, as functions -/
theorem hv_X4_clerk : yX4_clerk.cls = RX4 ∧ yX4_clerk.cls ≠ "java/lang/invoke/MethodHandle" ∧ yX4_clerk.cls ≠ "java/lang/invoke/VarHandle" ∧ (parseMethodDescriptor yX4_clerk.desc).map (fun d => d.parameters.length) = some 1 := by decide +kernel
theorem hv_X5_clerk : yX5_clerk.cls = RX5 ∧ yX5_clerk.cls ≠ "java/lang/invoke/MethodHandle" ∧ yX5_clerk.cls ≠ "java/lang/invoke/VarHandle" ∧ (parseMethodDescriptor yX5_clerk.desc).map (fun d => d.parameters.length) = some 1 := by decide +kernel
theorem hv_X4_ask : yX4_ask.cls = RX4 ∧ yX4_ask.cls ≠ "java/lang/invoke/MethodHandle" ∧ yX4_ask.cls ≠ "java/lang/invoke/VarHandle" ∧ (parseMethodDescriptor yX4_ask.desc).map (fun d => d.parameters.length) = some 2 := by decide +kernel
theorem hv_X5_ask : yX5_ask.cls = RX5 ∧ yX5_ask.cls ≠ "java/lang/invoke/MethodHandle" ∧ yX5_ask.cls ≠ "java/lang/invoke/VarHandle" ∧ (parseMethodDescriptor yX5_ask.desc).map (fun d => d.parameters.length) = some 2 := by decide +kernel
theorem hv_X4_forget : yX4_forget.cls = RX4 ∧ yX4_forget.cls ≠ "java/lang/invoke/MethodHandle" ∧ yX4_forget.cls ≠ "java/lang/invoke/VarHandle" ∧ (parseMethodDescriptor yX4_forget.desc).map (fun d => d.parameters.length) = some 1 := by decide +kernel
theorem hv_X5_forget : yX5_forget.cls = RX5 ∧ yX5_forget.cls ≠ "java/lang/invoke/MethodHandle" ∧ yX5_forget.cls ≠ "java/lang/invoke/VarHandle" ∧ (parseMethodDescriptor yX5_forget.desc).map (fun d => d.parameters.length) = some 1 := by decide +kernel
theorem hv_X4_giveBack : yX4_giveBack.cls = RX4 ∧ yX4_giveBack.cls ≠ "java/lang/invoke/MethodHandle" ∧ yX4_giveBack.cls ≠ "java/lang/invoke/VarHandle" ∧ (parseMethodDescriptor yX4_giveBack.desc).map (fun d => d.parameters.length) = some 1 := by decide +kernel
theorem hv_X5_giveBack : yX5_giveBack.cls = RX5 ∧ yX5_giveBack.cls ≠ "java/lang/invoke/MethodHandle" ∧ yX5_giveBack.cls ≠ "java/lang/invoke/VarHandle" ∧ (parseMethodDescriptor yX5_giveBack.desc).map (fun d => d.parameters.length) = some 1 := by decide +kernel
theorem hv_X4_makeVoid : yX4_makeVoid.cls = RX4 ∧ yX4_makeVoid.cls ≠ "java/lang/invoke/MethodHandle" ∧ yX4_makeVoid.cls ≠ "java/lang/invoke/VarHandle" ∧ (parseMethodDescriptor yX4_makeVoid.desc).map (fun d => d.parameters.length) = some 1 := by decide +kernel
theorem hv_X5_makeVoid : yX5_makeVoid.cls = RX5 ∧ yX5_makeVoid.cls ≠ "java/lang/invoke/MethodHandle" ∧ yX5_makeVoid.cls ≠ "java/lang/invoke/VarHandle" ∧ (parseMethodDescriptor yX5_makeVoid.desc).map (fun d => d.parameters.length) = some 1 := by decide +kernel
theorem hv_X4_close : yX4_close.cls = RX4 ∧ yX4_close.cls ≠ "java/lang/invoke/MethodHandle" ∧ yX4_close.cls ≠ "java/lang/invoke/VarHandle" ∧ (parseMethodDescriptor yX4_close.desc).map (fun d => d.parameters.length) = some 0 := by decide +kernel
theorem hv_X5_close : yX5_close.cls = RX5 ∧ yX5_close.cls ≠ "java/lang/invoke/MethodHandle" ∧ yX5_close.cls ≠ "java/lang/invoke/VarHandle" ∧ (parseMethodDescriptor yX5_close.desc).map (fun d => d.parameters.length) = some 0 := by decide +kernel
theorem hv_X4_set : yX4_set.cls = RX4 ∧ yX4_set.cls ≠ "java/lang/invoke/MethodHandle" ∧ yX4_set.cls ≠ "java/lang/invoke/VarHandle" ∧ (parseMethodDescriptor yX4_set.desc).map (fun d => d.parameters.length) = some 2 := by decide +kernel
theorem hv_X5_set : yX5_set.cls = RX5 ∧ yX5_set.cls ≠ "java/lang/invoke/MethodHandle" ∧ yX5_set.cls ≠ "java/lang/invoke/VarHandle" ∧ (parseMethodDescriptor yX5_set.desc).map (fun d => d.parameters.length) = some 2 := by decide +kernel
theorem hv_X4_numberOf : yX4_numberOf.cls = RX4 ∧ yX4_numberOf.cls ≠ "java/lang/invoke/MethodHandle" ∧ yX4_numberOf.cls ≠ "java/lang/invoke/VarHandle" ∧ (parseMethodDescriptor yX4_numberOf.desc).map (fun d => d.parameters.length) = some 2 := by decide +kernel
theorem hv_X5_numberOf : yX5_numberOf.cls = RX5 ∧ yX5_numberOf.cls ≠ "java/lang/invoke/MethodHandle" ∧ yX5_numberOf.cls ≠ "java/lang/invoke/VarHandle" ∧ (parseMethodDescriptor yX5_numberOf.desc).map (fun d => d.parameters.length) = some 2 := by decide +kernel
theorem hv_X4_clerkOf : yX4_clerkOf.cls = RX4 ∧ yX4_clerkOf.cls ≠ "java/lang/invoke/MethodHandle" ∧ yX4_clerkOf.cls ≠ "java/lang/invoke/VarHandle" ∧ (parseMethodDescriptor yX4_clerkOf.desc).map (fun d => d.parameters.length) = some 2 := by decide +kernel
theorem hv_X5_clerkOf : yX5_clerkOf.cls = RX5 ∧ yX5_clerkOf.cls ≠ "java/lang/invoke/MethodHandle" ∧ yX5_clerkOf.cls ≠ "java/lang/invoke/VarHandle" ∧ (parseMethodDescriptor yX5_clerkOf.desc).map (fun d => d.parameters.length) = some 2 := by decide +kernel
theorem hv_X4_holesAt : yX4_holesAt.cls = RX4 ∧ yX4_holesAt.cls ≠ "java/lang/invoke/MethodHandle" ∧ yX4_holesAt.cls ≠ "java/lang/invoke/VarHandle" ∧ (parseMethodDescriptor yX4_holesAt.desc).map (fun d => d.parameters.length) = some 2 := by decide +kernel
theorem hv_X5_holesAt : yX5_holesAt.cls = RX5 ∧ yX5_holesAt.cls ≠ "java/lang/invoke/MethodHandle" ∧ yX5_holesAt.cls ≠ "java/lang/invoke/VarHandle" ∧ (parseMethodDescriptor yX5_holesAt.desc).map (fun d => d.parameters.length) = some 2 := by decide +kernel
theorem hv_X4_freeAt : yX4_freeAt.cls = RX4 ∧ yX4_freeAt.cls ≠ "java/lang/invoke/MethodHandle" ∧ yX4_freeAt.cls ≠ "java/lang/invoke/VarHandle" ∧ (parseMethodDescriptor yX4_freeAt.desc).map (fun d => d.parameters.length) = some 2 := by decide +kernel
theorem hv_X5_freeAt : yX5_freeAt.cls = RX5 ∧ yX5_freeAt.cls ≠ "java/lang/invoke/MethodHandle" ∧ yX5_freeAt.cls ≠ "java/lang/invoke/VarHandle" ∧ (parseMethodDescriptor yX5_freeAt.desc).map (fun d => d.parameters.length) = some 2 := by decide +kernel
theorem hv_X4_turnAt : yX4_turnAt.cls = RX4 ∧ yX4_turnAt.cls ≠ "java/lang/invoke/MethodHandle" ∧ yX4_turnAt.cls ≠ "java/lang/invoke/VarHandle" ∧ (parseMethodDescriptor yX4_turnAt.desc).map (fun d => d.parameters.length) = some 1 := by decide +kernel
theorem hv_X5_turnAt : yX5_turnAt.cls = RX5 ∧ yX5_turnAt.cls ≠ "java/lang/invoke/MethodHandle" ∧ yX5_turnAt.cls ≠ "java/lang/invoke/VarHandle" ∧ (parseMethodDescriptor yX5_turnAt.desc).map (fun d => d.parameters.length) = some 1 := by decide +kernel
theorem hv_X4_among : yX4_among.cls = RX4 ∧ yX4_among.cls ≠ "java/lang/invoke/MethodHandle" ∧ yX4_among.cls ≠ "java/lang/invoke/VarHandle" ∧ (parseMethodDescriptor yX4_among.desc).map (fun d => d.parameters.length) = some 3 := by decide +kernel
theorem hv_X5_among : yX5_among.cls = RX5 ∧ yX5_among.cls ≠ "java/lang/invoke/MethodHandle" ∧ yX5_among.cls ≠ "java/lang/invoke/VarHandle" ∧ (parseMethodDescriptor yX5_among.desc).map (fun d => d.parameters.length) = some 3 := by decide +kernel
theorem hv_X4_count : yX4_count.cls = RX4 ∧ yX4_count.cls ≠ "java/lang/invoke/MethodHandle" ∧ yX4_count.cls ≠ "java/lang/invoke/VarHandle" ∧ (parseMethodDescriptor yX4_count.desc).map (fun d => d.parameters.length) = some 1 := by decide +kernel
theorem hv_X5_count : yX5_count.cls = RX5 ∧ yX5_count.cls ≠ "java/lang/invoke/MethodHandle" ∧ yX5_count.cls ≠ "java/lang/invoke/VarHandle" ∧ (parseMethodDescriptor yX5_count.desc).map (fun d => d.parameters.length) = some 1 := by decide +kernel
theorem hv_X4_next : yX4_next.cls = RX4 ∧ yX4_next.cls ≠ "java/lang/invoke/MethodHandle" ∧ yX4_next.cls ≠ "java/lang/invoke/VarHandle" ∧ (parseMethodDescriptor yX4_next.desc).map (fun d => d.parameters.length) = some 1 := by decide +kernel
theorem hv_X5_next : yX5_next.cls = RX5 ∧ yX5_next.cls ≠ "java/lang/invoke/MethodHandle" ∧ yX5_next.cls ≠ "java/lang/invoke/VarHandle" ∧ (parseMethodDescriptor yX5_next.desc).map (fun d => d.parameters.length) = some 1 := by decide +kernel
theorem hv_X4_cost : yX4_cost.cls = RX4 ∧ yX4_cost.cls ≠ "java/lang/invoke/MethodHandle" ∧ yX4_cost.cls ≠ "java/lang/invoke/VarHandle" ∧ (parseMethodDescriptor yX4_cost.desc).map (fun d => d.parameters.length) = some 2 := by decide +kernel
theorem hv_X5_cost : yX5_cost.cls = RX5 ∧ yX5_cost.cls ≠ "java/lang/invoke/MethodHandle" ∧ yX5_cost.cls ≠ "java/lang/invoke/VarHandle" ∧ (parseMethodDescriptor yX5_cost.desc).map (fun d => d.parameters.length) = some 2 := by decide +kernel
theorem hv_X4_worst : yX4_worst.cls = RX4 ∧ yX4_worst.cls ≠ "java/lang/invoke/MethodHandle" ∧ yX4_worst.cls ≠ "java/lang/invoke/VarHandle" ∧ (parseMethodDescriptor yX4_worst.desc).map (fun d => d.parameters.length) = some 0 := by decide +kernel
theorem hv_X5_worst : yX5_worst.cls = RX5 ∧ yX5_worst.cls ≠ "java/lang/invoke/MethodHandle" ∧ yX5_worst.cls ≠ "java/lang/invoke/VarHandle" ∧ (parseMethodDescriptor yX5_worst.desc).map (fun d => d.parameters.length) = some 0 := by decide +kernel
theorem hv_X4_undo : yX4_undo.cls = RX4 ∧ yX4_undo.cls ≠ "java/lang/invoke/MethodHandle" ∧ yX4_undo.cls ≠ "java/lang/invoke/VarHandle" ∧ (parseMethodDescriptor yX4_undo.desc).map (fun d => d.parameters.length) = some 0 := by decide +kernel
theorem hv_X5_undo : yX5_undo.cls = RX5 ∧ yX5_undo.cls ≠ "java/lang/invoke/MethodHandle" ∧ yX5_undo.cls ≠ "java/lang/invoke/VarHandle" ∧ (parseMethodDescriptor yX5_undo.desc).map (fun d => d.parameters.length) = some 0 := by decide +kernel
theorem hv_X4_type : yX4_type.cls = RX4 ∧ yX4_type.cls ≠ "java/lang/invoke/MethodHandle" ∧ yX4_type.cls ≠ "java/lang/invoke/VarHandle" ∧ (parseMethodDescriptor yX4_type.desc).map (fun d => d.parameters.length) = some 1 := by decide +kernel
theorem hv_X5_type : yX5_type.cls = RX5 ∧ yX5_type.cls ≠ "java/lang/invoke/MethodHandle" ∧ yX5_type.cls ≠ "java/lang/invoke/VarHandle" ∧ (parseMethodDescriptor yX5_type.desc).map (fun d => d.parameters.length) = some 1 := by decide +kernel
theorem hv_X4_clearText : yX4_clearText.cls = RX4 ∧ yX4_clearText.cls ≠ "java/lang/invoke/MethodHandle" ∧ yX4_clearText.cls ≠ "java/lang/invoke/VarHandle" ∧ (parseMethodDescriptor yX4_clearText.desc).map (fun d => d.parameters.length) = some 0 := by decide +kernel
theorem hv_X5_clearText : yX5_clearText.cls = RX5 ∧ yX5_clearText.cls ≠ "java/lang/invoke/MethodHandle" ∧ yX5_clearText.cls ≠ "java/lang/invoke/VarHandle" ∧ (parseMethodDescriptor yX5_clearText.desc).map (fun d => d.parameters.length) = some 0 := by decide +kernel
theorem hv_X4_fault : yX4_fault.cls = RX4 ∧ yX4_fault.cls ≠ "java/lang/invoke/MethodHandle" ∧ yX4_fault.cls ≠ "java/lang/invoke/VarHandle" ∧ (parseMethodDescriptor yX4_fault.desc).map (fun d => d.parameters.length) = some 1 := by decide +kernel
theorem hv_X5_fault : yX5_fault.cls = RX5 ∧ yX5_fault.cls ≠ "java/lang/invoke/MethodHandle" ∧ yX5_fault.cls ≠ "java/lang/invoke/VarHandle" ∧ (parseMethodDescriptor yX5_fault.desc).map (fun d => d.parameters.length) = some 1 := by decide +kernel
theorem hv_X4_play : yX4_play.cls = RX4 ∧ yX4_play.cls ≠ "java/lang/invoke/MethodHandle" ∧ yX4_play.cls ≠ "java/lang/invoke/VarHandle" ∧ (parseMethodDescriptor yX4_play.desc).map (fun d => d.parameters.length) = some 0 := by decide +kernel
theorem hv_X5_play : yX5_play.cls = RX5 ∧ yX5_play.cls ≠ "java/lang/invoke/MethodHandle" ∧ yX5_play.cls ≠ "java/lang/invoke/VarHandle" ∧ (parseMethodDescriptor yX5_play.desc).map (fun d => d.parameters.length) = some 0 := by decide +kernel
theorem hv_X0_lastLost : yX0_lastLost.cls = RX0 ∧ yX0_lastLost.cls ≠ "java/lang/invoke/MethodHandle" ∧ yX0_lastLost.cls ≠ "java/lang/invoke/VarHandle" ∧ (parseMethodDescriptor yX0_lastLost.desc).map (fun d => d.parameters.length) = some 0 := by decide +kernel
theorem hv_X1_put : yX1_put.cls = RX1 ∧ yX1_put.cls ≠ "java/lang/invoke/MethodHandle" ∧ yX1_put.cls ≠ "java/lang/invoke/VarHandle" ∧ (parseMethodDescriptor yX1_put.desc).map (fun d => d.parameters.length) = some 5 := by decide +kernel
theorem hs_X1_isNumber : yX1_isNumber.cls ≠ "java/lang/invoke/MethodHandle" ∧ yX1_isNumber.cls ≠ "java/lang/invoke/VarHandle" ∧ (parseMethodDescriptor yX1_isNumber.desc).map (fun d => d.parameters.length) = some 1 := by decide +kernel
theorem hv_X1_goesOn : yX1_goesOn.cls = RX1 ∧ yX1_goesOn.cls ≠ "java/lang/invoke/MethodHandle" ∧ yX1_goesOn.cls ≠ "java/lang/invoke/VarHandle" ∧ (parseMethodDescriptor yX1_goesOn.desc).map (fun d => d.parameters.length) = some 1 := by decide +kernel
theorem hv_X1_startsRow : yX1_startsRow.cls = RX1 ∧ yX1_startsRow.cls ≠ "java/lang/invoke/MethodHandle" ∧ yX1_startsRow.cls ≠ "java/lang/invoke/VarHandle" ∧ (parseMethodDescriptor yX1_startsRow.desc).map (fun d => d.parameters.length) = some 2 := by decide +kernel
theorem hs_X4_orNotFound : yX4_orNotFound.cls ≠ "java/lang/invoke/MethodHandle" ∧ yX4_orNotFound.cls ≠ "java/lang/invoke/VarHandle" ∧ (parseMethodDescriptor yX4_orNotFound.desc).map (fun d => d.parameters.length) = some 1 := by decide +kernel
theorem hv_X1_tellLateness : yX1_tellLateness.cls = RX1 ∧ yX1_tellLateness.cls ≠ "java/lang/invoke/MethodHandle" ∧ yX1_tellLateness.cls ≠ "java/lang/invoke/VarHandle" ∧ (parseMethodDescriptor yX1_tellLateness.desc).map (fun d => d.parameters.length) = some 1 := by decide +kernel
theorem hv_X1_startOfRow : yX1_startOfRow.cls = RX1 ∧ yX1_startOfRow.cls ≠ "java/lang/invoke/MethodHandle" ∧ yX1_startOfRow.cls ≠ "java/lang/invoke/VarHandle" ∧ (parseMethodDescriptor yX1_startOfRow.desc).map (fun d => d.parameters.length) = some 2 := by decide +kernel
theorem hv_X1_lastOfRow : yX1_lastOfRow.cls = RX1 ∧ yX1_lastOfRow.cls ≠ "java/lang/invoke/MethodHandle" ∧ yX1_lastOfRow.cls ≠ "java/lang/invoke/VarHandle" ∧ (parseMethodDescriptor yX1_lastOfRow.desc).map (fun d => d.parameters.length) = some 2 := by decide +kernel
theorem hv_X2_isClerk : yX2_isClerk.cls = RX2 ∧ yX2_isClerk.cls ≠ "java/lang/invoke/MethodHandle" ∧ yX2_isClerk.cls ≠ "java/lang/invoke/VarHandle" ∧ (parseMethodDescriptor yX2_isClerk.desc).map (fun d => d.parameters.length) = some 1 := by decide +kernel
theorem hv_X1_inState : yX1_inState.cls = RX1 ∧ yX1_inState.cls ≠ "java/lang/invoke/MethodHandle" ∧ yX1_inState.cls ≠ "java/lang/invoke/VarHandle" ∧ (parseMethodDescriptor yX1_inState.desc).map (fun d => d.parameters.length) = some 3 := by decide +kernel
theorem hv_X0_held : yX0_held.cls = RX0 ∧ yX0_held.cls ≠ "java/lang/invoke/MethodHandle" ∧ yX0_held.cls ≠ "java/lang/invoke/VarHandle" ∧ (parseMethodDescriptor yX0_held.desc).map (fun d => d.parameters.length) = some 0 := by decide +kernel
theorem hv_X1_become : yX1_become.cls = RX1 ∧ yX1_become.cls ≠ "java/lang/invoke/MethodHandle" ∧ yX1_become.cls ≠ "java/lang/invoke/VarHandle" ∧ (parseMethodDescriptor yX1_become.desc).map (fun d => d.parameters.length) = some 1 := by decide +kernel
theorem hv_X0_become : yX0_become.cls = RX0 ∧ yX0_become.cls ≠ "java/lang/invoke/MethodHandle" ∧ yX0_become.cls ≠ "java/lang/invoke/VarHandle" ∧ (parseMethodDescriptor yX0_become.desc).map (fun d => d.parameters.length) = some 1 := by decide +kernel
theorem hv_X1_closeAll : yX1_closeAll.cls = RX1 ∧ yX1_closeAll.cls ≠ "java/lang/invoke/MethodHandle" ∧ yX1_closeAll.cls ≠ "java/lang/invoke/VarHandle" ∧ (parseMethodDescriptor yX1_closeAll.desc).map (fun d => d.parameters.length) = some 0 := by decide +kernel
theorem hv_X0_drop : yX0_drop.cls = RX0 ∧ yX0_drop.cls ≠ "java/lang/invoke/MethodHandle" ∧ yX0_drop.cls ≠ "java/lang/invoke/VarHandle" ∧ (parseMethodDescriptor yX0_drop.desc).map (fun d => d.parameters.length) = some 0 := by decide +kernel
theorem hv_X2_startOfBlock : yX2_startOfBlock.cls = RX2 ∧ yX2_startOfBlock.cls ≠ "java/lang/invoke/MethodHandle" ∧ yX2_startOfBlock.cls ≠ "java/lang/invoke/VarHandle" ∧ (parseMethodDescriptor yX2_startOfBlock.desc).map (fun d => d.parameters.length) = some 0 := by decide +kernel
theorem hv_X0_receive : yX0_receive.cls = RX0 ∧ yX0_receive.cls ≠ "java/lang/invoke/MethodHandle" ∧ yX0_receive.cls ≠ "java/lang/invoke/VarHandle" ∧ (parseMethodDescriptor yX0_receive.desc).map (fun d => d.parameters.length) = some 2 := by decide +kernel
theorem hv_X0_loss : yX0_loss.cls = RX0 ∧ yX0_loss.cls ≠ "java/lang/invoke/MethodHandle" ∧ yX0_loss.cls ≠ "java/lang/invoke/VarHandle" ∧ (parseMethodDescriptor yX0_loss.desc).map (fun d => d.parameters.length) = some 0 := by decide +kernel
theorem hv_X2_available : yX2_available.cls = RX2 ∧ yX2_available.cls ≠ "java/lang/invoke/MethodHandle" ∧ yX2_available.cls ≠ "java/lang/invoke/VarHandle" ∧ (parseMethodDescriptor yX2_available.desc).map (fun d => d.parameters.length) = some 1 := by decide +kernel
theorem hv_X2_handOut : yX2_handOut.cls = RX2 ∧ yX2_handOut.cls ≠ "java/lang/invoke/MethodHandle" ∧ yX2_handOut.cls ≠ "java/lang/invoke/VarHandle" ∧ (parseMethodDescriptor yX2_handOut.desc).map (fun d => d.parameters.length) = some 1 := by decide +kernel
theorem hv_X0_giveLowest : yX0_giveLowest.cls = RX0 ∧ yX0_giveLowest.cls ≠ "java/lang/invoke/MethodHandle" ∧ yX0_giveLowest.cls ≠ "java/lang/invoke/VarHandle" ∧ (parseMethodDescriptor yX0_giveLowest.desc).map (fun d => d.parameters.length) = some 1 := by decide +kernel
theorem hv_X1_give : yX1_give.cls = RX1 ∧ yX1_give.cls ≠ "java/lang/invoke/MethodHandle" ∧ yX1_give.cls ≠ "java/lang/invoke/VarHandle" ∧ (parseMethodDescriptor yX1_give.desc).map (fun d => d.parameters.length) = some 3 := by decide +kernel
theorem hv_X1_lowestFree : yX1_lowestFree.cls = RX1 ∧ yX1_lowestFree.cls ≠ "java/lang/invoke/MethodHandle" ∧ yX1_lowestFree.cls ≠ "java/lang/invoke/VarHandle" ∧ (parseMethodDescriptor yX1_lowestFree.desc).map (fun d => d.parameters.length) = some 0 := by decide +kernel
theorem hv_X1_lateOnes : yX1_lateOnes.cls = RX1 ∧ yX1_lateOnes.cls ≠ "java/lang/invoke/MethodHandle" ∧ yX1_lateOnes.cls ≠ "java/lang/invoke/VarHandle" ∧ (parseMethodDescriptor yX1_lateOnes.desc).map (fun d => d.parameters.length) = some 0 := by decide +kernel
theorem hv_X1_givenWithoutGap : yX1_givenWithoutGap.cls = RX1 ∧ yX1_givenWithoutGap.cls ≠ "java/lang/invoke/MethodHandle" ∧ yX1_givenWithoutGap.cls ≠ "java/lang/invoke/VarHandle" ∧ (parseMethodDescriptor yX1_givenWithoutGap.desc).map (fun d => d.parameters.length) = some 0 := by decide +kernel
theorem hv_X1_rows : yX1_rows.cls = RX1 ∧ yX1_rows.cls ≠ "java/lang/invoke/MethodHandle" ∧ yX1_rows.cls ≠ "java/lang/invoke/VarHandle" ∧ (parseMethodDescriptor yX1_rows.desc).map (fun d => d.parameters.length) = some 1 := by decide +kernel
theorem hv_X2_settingAt : yX2_settingAt.cls = RX2 ∧ yX2_settingAt.cls ≠ "java/lang/invoke/MethodHandle" ∧ yX2_settingAt.cls ≠ "java/lang/invoke/VarHandle" ∧ (parseMethodDescriptor yX2_settingAt.desc).map (fun d => d.parameters.length) = some 1 := by decide +kernel
theorem hv_X1_holesOf : yX1_holesOf.cls = RX1 ∧ yX1_holesOf.cls ≠ "java/lang/invoke/MethodHandle" ∧ yX1_holesOf.cls ≠ "java/lang/invoke/VarHandle" ∧ (parseMethodDescriptor yX1_holesOf.desc).map (fun d => d.parameters.length) = some 1 := by decide +kernel
theorem hv_X1_forgottenOf : yX1_forgottenOf.cls = RX1 ∧ yX1_forgottenOf.cls ≠ "java/lang/invoke/MethodHandle" ∧ yX1_forgottenOf.cls ≠ "java/lang/invoke/VarHandle" ∧ (parseMethodDescriptor yX1_forgottenOf.desc).map (fun d => d.parameters.length) = some 1 := by decide +kernel
theorem hv_X3_takeWord : yX3_takeWord.cls = RX3 ∧ yX3_takeWord.cls ≠ "java/lang/invoke/MethodHandle" ∧ yX3_takeWord.cls ≠ "java/lang/invoke/VarHandle" ∧ (parseMethodDescriptor yX3_takeWord.desc).map (fun d => d.parameters.length) = some 1 := by decide +kernel
theorem hv_X3_takeKind : yX3_takeKind.cls = RX3 ∧ yX3_takeKind.cls ≠ "java/lang/invoke/MethodHandle" ∧ yX3_takeKind.cls ≠ "java/lang/invoke/VarHandle" ∧ (parseMethodDescriptor yX3_takeKind.desc).map (fun d => d.parameters.length) = some 0 := by decide +kernel
theorem hv_X3_takeNumber : yX3_takeNumber.cls = RX3 ∧ yX3_takeNumber.cls ≠ "java/lang/invoke/MethodHandle" ∧ yX3_takeNumber.cls ≠ "java/lang/invoke/VarHandle" ∧ (parseMethodDescriptor yX3_takeNumber.desc).map (fun d => d.parameters.length) = some 0 := by decide +kernel
theorem hv_X3_signAt : yX3_signAt.cls = RX3 ∧ yX3_signAt.cls ≠ "java/lang/invoke/MethodHandle" ∧ yX3_signAt.cls ≠ "java/lang/invoke/VarHandle" ∧ (parseMethodDescriptor yX3_signAt.desc).map (fun d => d.parameters.length) = some 1 := by decide +kernel
theorem hs_X3_isDigit : yX3_isDigit.cls ≠ "java/lang/invoke/MethodHandle" ∧ yX3_isDigit.cls ≠ "java/lang/invoke/VarHandle" ∧ (parseMethodDescriptor yX3_isDigit.desc).map (fun d => d.parameters.length) = some 1 := by decide +kernel
theorem hv_X4_remember : yX4_remember.cls = RX4 ∧ yX4_remember.cls ≠ "java/lang/invoke/MethodHandle" ∧ yX4_remember.cls ≠ "java/lang/invoke/VarHandle" ∧ (parseMethodDescriptor yX4_remember.desc).map (fun d => d.parameters.length) = some 0 := by decide +kernel
theorem hv_X2_become : yX2_become.cls = RX2 ∧ yX2_become.cls ≠ "java/lang/invoke/MethodHandle" ∧ yX2_become.cls ≠ "java/lang/invoke/VarHandle" ∧ (parseMethodDescriptor yX2_become.desc).map (fun d => d.parameters.length) = some 1 := by decide +kernel
theorem hv_X1_withReason : yX1_withReason.cls = RX1 ∧ yX1_withReason.cls ≠ "java/lang/invoke/MethodHandle" ∧ yX1_withReason.cls ≠ "java/lang/invoke/VarHandle" ∧ (parseMethodDescriptor yX1_withReason.desc).map (fun d => d.parameters.length) = some 3 := by decide +kernel
theorem hv_X2_serve : yX2_serve.cls = RX2 ∧ yX2_serve.cls ≠ "java/lang/invoke/MethodHandle" ∧ yX2_serve.cls ≠ "java/lang/invoke/VarHandle" ∧ (parseMethodDescriptor yX2_serve.desc).map (fun d => d.parameters.length) = some 2 := by decide +kernel
theorem hv_X4_adopt : yX4_adopt.cls = RX4 ∧ yX4_adopt.cls ≠ "java/lang/invoke/MethodHandle" ∧ yX4_adopt.cls ≠ "java/lang/invoke/VarHandle" ∧ (parseMethodDescriptor yX4_adopt.desc).map (fun d => d.parameters.length) = some 1 := by decide +kernel
theorem hv_X2_addClerk : yX2_addClerk.cls = RX2 ∧ yX2_addClerk.cls ≠ "java/lang/invoke/MethodHandle" ∧ yX2_addClerk.cls ≠ "java/lang/invoke/VarHandle" ∧ (parseMethodDescriptor yX2_addClerk.desc).map (fun d => d.parameters.length) = some 1 := by decide +kernel
theorem hv_X2_tellOfClerk : yX2_tellOfClerk.cls = RX2 ∧ yX2_tellOfClerk.cls ≠ "java/lang/invoke/MethodHandle" ∧ yX2_tellOfClerk.cls ≠ "java/lang/invoke/VarHandle" ∧ (parseMethodDescriptor yX2_tellOfClerk.desc).map (fun d => d.parameters.length) = some 2 := by decide +kernel
theorem hv_X2_endDay : yX2_endDay.cls = RX2 ∧ yX2_endDay.cls ≠ "java/lang/invoke/MethodHandle" ∧ yX2_endDay.cls ≠ "java/lang/invoke/VarHandle" ∧ (parseMethodDescriptor yX2_endDay.desc).map (fun d => d.parameters.length) = some 0 := by decide +kernel
theorem hv_X2_lossOf : yX2_lossOf.cls = RX2 ∧ yX2_lossOf.cls ≠ "java/lang/invoke/MethodHandle" ∧ yX2_lossOf.cls ≠ "java/lang/invoke/VarHandle" ∧ (parseMethodDescriptor yX2_lossOf.desc).map (fun d => d.parameters.length) = some 1 := by decide +kernel
theorem hv_X2_tally : yX2_tally.cls = RX2 ∧ yX2_tally.cls ≠ "java/lang/invoke/MethodHandle" ∧ yX2_tally.cls ≠ "java/lang/invoke/VarHandle" ∧ (parseMethodDescriptor yX2_tally.desc).map (fun d => d.parameters.length) = some 1 := by decide +kernel
theorem hv_X4_rehearse : yX4_rehearse.cls = RX4 ∧ yX4_rehearse.cls ≠ "java/lang/invoke/MethodHandle" ∧ yX4_rehearse.cls ≠ "java/lang/invoke/VarHandle" ∧ (parseMethodDescriptor yX4_rehearse.desc).map (fun d => d.parameters.length) = some 0 := by decide +kernel
theorem hv_X2_letForget : yX2_letForget.cls = RX2 ∧ yX2_letForget.cls ≠ "java/lang/invoke/MethodHandle" ∧ yX2_letForget.cls ≠ "java/lang/invoke/VarHandle" ∧ (parseMethodDescriptor yX2_letForget.desc).map (fun d => d.parameters.length) = some 1 := by decide +kernel
theorem hv_X1_tellOfRow : yX1_tellOfRow.cls = RX1 ∧ yX1_tellOfRow.cls ≠ "java/lang/invoke/MethodHandle" ∧ yX1_tellOfRow.cls ≠ "java/lang/invoke/VarHandle" ∧ (parseMethodDescriptor yX1_tellOfRow.desc).map (fun d => d.parameters.length) = some 3 := by decide +kernel
theorem hv_X2_takeBack : yX2_takeBack.cls = RX2 ∧ yX2_takeBack.cls ≠ "java/lang/invoke/MethodHandle" ∧ yX2_takeBack.cls ≠ "java/lang/invoke/VarHandle" ∧ (parseMethodDescriptor yX2_takeBack.desc).map (fun d => d.parameters.length) = some 1 := by decide +kernel
theorem hv_X2_cancel : yX2_cancel.cls = RX2 ∧ yX2_cancel.cls ≠ "java/lang/invoke/MethodHandle" ∧ yX2_cancel.cls ≠ "java/lang/invoke/VarHandle" ∧ (parseMethodDescriptor yX2_cancel.desc).map (fun d => d.parameters.length) = some 1 := by decide +kernel
theorem hv_X2_upcoming : yX2_upcoming.cls = RX2 ∧ yX2_upcoming.cls ≠ "java/lang/invoke/MethodHandle" ∧ yX2_upcoming.cls ≠ "java/lang/invoke/VarHandle" ∧ (parseMethodDescriptor yX2_upcoming.desc).map (fun d => d.parameters.length) = some 1 := by decide +kernel
theorem hv_X1_tell : yX1_tell.cls = RX1 ∧ yX1_tell.cls ≠ "java/lang/invoke/MethodHandle" ∧ yX1_tell.cls ≠ "java/lang/invoke/VarHandle" ∧ (parseMethodDescriptor yX1_tell.desc).map (fun d => d.parameters.length) = some 2 := by decide +kernel
theorem hv_X3_rewind : yX3_rewind.cls = RX3 ∧ yX3_rewind.cls ≠ "java/lang/invoke/MethodHandle" ∧ yX3_rewind.cls ≠ "java/lang/invoke/VarHandle" ∧ (parseMethodDescriptor yX3_rewind.desc).map (fun d => d.parameters.length) = some 0 := by decide +kernel
theorem hv_X3_readCommand : yX3_readCommand.cls = RX3 ∧ yX3_readCommand.cls ≠ "java/lang/invoke/MethodHandle" ∧ yX3_readCommand.cls ≠ "java/lang/invoke/VarHandle" ∧ (parseMethodDescriptor yX3_readCommand.desc).map (fun d => d.parameters.length) = some 0 := by decide +kernel
theorem hv_X4_perform : yX4_perform.cls = RX4 ∧ yX4_perform.cls ≠ "java/lang/invoke/MethodHandle" ∧ yX4_perform.cls ≠ "java/lang/invoke/VarHandle" ∧ (parseMethodDescriptor yX4_perform.desc).map (fun d => d.parameters.length) = some 0 := by decide +kernel
theorem hs_X4_reasonOf : yX4_reasonOf.cls ≠ "java/lang/invoke/MethodHandle" ∧ yX4_reasonOf.cls ≠ "java/lang/invoke/VarHandle" ∧ (parseMethodDescriptor yX4_reasonOf.desc).map (fun d => d.parameters.length) = some 1 := by decide +kernel
theorem hv_X4_dropOldest : yX4_dropOldest.cls = RX4 ∧ yX4_dropOldest.cls ≠ "java/lang/invoke/MethodHandle" ∧ yX4_dropOldest.cls ≠ "java/lang/invoke/VarHandle" ∧ (parseMethodDescriptor yX4_dropOldest.desc).map (fun d => d.parameters.length) = some 0 := by decide +kernel
theorem hv_X2_change : yX2_change.cls = RX2 ∧ yX2_change.cls ≠ "java/lang/invoke/MethodHandle" ∧ yX2_change.cls ≠ "java/lang/invoke/VarHandle" ∧ (parseMethodDescriptor yX2_change.desc).map (fun d => d.parameters.length) = some 2 := by decide +kernel
theorem hv_X1_givenIn : yX1_givenIn.cls = RX1 ∧ yX1_givenIn.cls ≠ "java/lang/invoke/MethodHandle" ∧ yX1_givenIn.cls ≠ "java/lang/invoke/VarHandle" ∧ (parseMethodDescriptor yX1_givenIn.desc).map (fun d => d.parameters.length) = some 1 := by decide +kernel
theorem hv_X3_append : yX3_append.cls = RX3 ∧ yX3_append.cls ≠ "java/lang/invoke/MethodHandle" ∧ yX3_append.cls ≠ "java/lang/invoke/VarHandle" ∧ (parseMethodDescriptor yX3_append.desc).map (fun d => d.parameters.length) = some 1 := by decide +kernel
theorem hv_X2_mostForgetful : yX2_mostForgetful.cls = RX2 ∧ yX2_mostForgetful.cls ≠ "java/lang/invoke/MethodHandle" ∧ yX2_mostForgetful.cls ≠ "java/lang/invoke/VarHandle" ∧ (parseMethodDescriptor yX2_mostForgetful.desc).map (fun d => d.parameters.length) = some 0 := by decide +kernel
theorem hs_X5_isNumber : yX5_isNumber.cls ≠ "java/lang/invoke/MethodHandle" ∧ yX5_isNumber.cls ≠ "java/lang/invoke/VarHandle" ∧ (parseMethodDescriptor yX5_isNumber.desc).map (fun d => d.parameters.length) = some 1 := by decide +kernel
theorem hs_X5_in : yX5_in.cls ≠ "java/lang/invoke/MethodHandle" ∧ yX5_in.cls ≠ "java/lang/invoke/VarHandle" ∧ (parseMethodDescriptor yX5_in.desc).map (fun d => d.parameters.length) = some 3 := by decide +kernel
theorem hs_X5_n : yX5_n.cls ≠ "java/lang/invoke/MethodHandle" ∧ yX5_n.cls ≠ "java/lang/invoke/VarHandle" ∧ (parseMethodDescriptor yX5_n.desc).map (fun d => d.parameters.length) = some 1 := by decide +kernel
theorem hv_X5_isClerk : yX5_isClerk.cls = RX5 ∧ yX5_isClerk.cls ≠ "java/lang/invoke/MethodHandle" ∧ yX5_isClerk.cls ≠ "java/lang/invoke/VarHandle" ∧ (parseMethodDescriptor yX5_isClerk.desc).map (fun d => d.parameters.length) = some 1 := by decide +kernel
theorem hv_X5_canAsk : yX5_canAsk.cls = RX5 ∧ yX5_canAsk.cls ≠ "java/lang/invoke/MethodHandle" ∧ yX5_canAsk.cls ≠ "java/lang/invoke/VarHandle" ∧ (parseMethodDescriptor yX5_canAsk.desc).map (fun d => d.parameters.length) = some 2 := by decide +kernel
theorem hv_X5_record : yX5_record.cls = RX5 ∧ yX5_record.cls ≠ "java/lang/invoke/MethodHandle" ∧ yX5_record.cls ≠ "java/lang/invoke/VarHandle" ∧ (parseMethodDescriptor yX5_record.desc).map (fun d => d.parameters.length) = some 0 := by decide +kernel
theorem hv_X5_goAsk : yX5_goAsk.cls = RX5 ∧ yX5_goAsk.cls ≠ "java/lang/invoke/MethodHandle" ∧ yX5_goAsk.cls ≠ "java/lang/invoke/VarHandle" ∧ (parseMethodDescriptor yX5_goAsk.desc).map (fun d => d.parameters.length) = some 2 := by decide +kernel
theorem hv_X5_lowest : yX5_lowest.cls = RX5 ∧ yX5_lowest.cls ≠ "java/lang/invoke/MethodHandle" ∧ yX5_lowest.cls ≠ "java/lang/invoke/VarHandle" ∧ (parseMethodDescriptor yX5_lowest.desc).map (fun d => d.parameters.length) = some 1 := by decide +kernel
theorem hv_X5_holds : yX5_holds.cls = RX5 ∧ yX5_holds.cls ≠ "java/lang/invoke/MethodHandle" ∧ yX5_holds.cls ≠ "java/lang/invoke/VarHandle" ∧ (parseMethodDescriptor yX5_holds.desc).map (fun d => d.parameters.length) = some 1 := by decide +kernel
theorem hv_X5_many : yX5_many.cls = RX5 ∧ yX5_many.cls ≠ "java/lang/invoke/MethodHandle" ∧ yX5_many.cls ≠ "java/lang/invoke/VarHandle" ∧ (parseMethodDescriptor yX5_many.desc).map (fun d => d.parameters.length) = some 1 := by decide +kernel
theorem hv_X5_goClerk : yX5_goClerk.cls = RX5 ∧ yX5_goClerk.cls ≠ "java/lang/invoke/MethodHandle" ∧ yX5_goClerk.cls ≠ "java/lang/invoke/VarHandle" ∧ (parseMethodDescriptor yX5_goClerk.desc).map (fun d => d.parameters.length) = some 1 := by decide +kernel
theorem hs_X5_c : yX5_c.cls ≠ "java/lang/invoke/MethodHandle" ∧ yX5_c.cls ≠ "java/lang/invoke/VarHandle" ∧ (parseMethodDescriptor yX5_c.desc).map (fun d => d.parameters.length) = some 1 := by decide +kernel
theorem hv_X5_holesOf : yX5_holesOf.cls = RX5 ∧ yX5_holesOf.cls ≠ "java/lang/invoke/MethodHandle" ∧ yX5_holesOf.cls ≠ "java/lang/invoke/VarHandle" ∧ (parseMethodDescriptor yX5_holesOf.desc).map (fun d => d.parameters.length) = some 2 := by decide +kernel
theorem hv_X5_goClose : yX5_goClose.cls = RX5 ∧ yX5_goClose.cls ≠ "java/lang/invoke/MethodHandle" ∧ yX5_goClose.cls ≠ "java/lang/invoke/VarHandle" ∧ (parseMethodDescriptor yX5_goClose.desc).map (fun d => d.parameters.length) = some 0 := by decide +kernel
theorem hv_X5_layAside : yX5_layAside.cls = RX5 ∧ yX5_layAside.cls ≠ "java/lang/invoke/MethodHandle" ∧ yX5_layAside.cls ≠ "java/lang/invoke/VarHandle" ∧ (parseMethodDescriptor yX5_layAside.desc).map (fun d => d.parameters.length) = some 0 := by decide +kernel
theorem hv_X5_goForget : yX5_goForget.cls = RX5 ∧ yX5_goForget.cls ≠ "java/lang/invoke/MethodHandle" ∧ yX5_goForget.cls ≠ "java/lang/invoke/VarHandle" ∧ (parseMethodDescriptor yX5_goForget.desc).map (fun d => d.parameters.length) = some 1 := by decide +kernel
theorem hv_X5_layBack : yX5_layBack.cls = RX5 ∧ yX5_layBack.cls ≠ "java/lang/invoke/MethodHandle" ∧ yX5_layBack.cls ≠ "java/lang/invoke/VarHandle" ∧ (parseMethodDescriptor yX5_layBack.desc).map (fun d => d.parameters.length) = some 0 := by decide +kernel
theorem hv_X5_lateMany : yX5_lateMany.cls = RX5 ∧ yX5_lateMany.cls ≠ "java/lang/invoke/MethodHandle" ∧ yX5_lateMany.cls ≠ "java/lang/invoke/VarHandle" ∧ (parseMethodDescriptor yX5_lateMany.desc).map (fun d => d.parameters.length) = some 0 := by decide +kernel
theorem hv_X5_whole : yX5_whole.cls = RX5 ∧ yX5_whole.cls ≠ "java/lang/invoke/MethodHandle" ∧ yX5_whole.cls ≠ "java/lang/invoke/VarHandle" ∧ (parseMethodDescriptor yX5_whole.desc).map (fun d => d.parameters.length) = some 0 := by decide +kernel
theorem hv_X5_rows : yX5_rows.cls = RX5 ∧ yX5_rows.cls ≠ "java/lang/invoke/MethodHandle" ∧ yX5_rows.cls ≠ "java/lang/invoke/VarHandle" ∧ (parseMethodDescriptor yX5_rows.desc).map (fun d => d.parameters.length) = some 0 := by decide +kernel
theorem hv_X5_goesOn : yX5_goesOn.cls = RX5 ∧ yX5_goesOn.cls ≠ "java/lang/invoke/MethodHandle" ∧ yX5_goesOn.cls ≠ "java/lang/invoke/VarHandle" ∧ (parseMethodDescriptor yX5_goesOn.desc).map (fun d => d.parameters.length) = some 2 := by decide +kernel
theorem hv_X5_run : yX5_run.cls = RX5 ∧ yX5_run.cls ≠ "java/lang/invoke/MethodHandle" ∧ yX5_run.cls ≠ "java/lang/invoke/VarHandle" ∧ (parseMethodDescriptor yX5_run.desc).map (fun d => d.parameters.length) = some 0 := by decide +kernel
theorem hv_X5_rowAt : yX5_rowAt.cls = RX5 ∧ yX5_rowAt.cls ≠ "java/lang/invoke/MethodHandle" ∧ yX5_rowAt.cls ≠ "java/lang/invoke/VarHandle" ∧ (parseMethodDescriptor yX5_rowAt.desc).map (fun d => d.parameters.length) = some 2 := by decide +kernel
theorem hv_X5_endOf : yX5_endOf.cls = RX5 ∧ yX5_endOf.cls ≠ "java/lang/invoke/MethodHandle" ∧ yX5_endOf.cls ≠ "java/lang/invoke/VarHandle" ∧ (parseMethodDescriptor yX5_endOf.desc).map (fun d => d.parameters.length) = some 2 := by decide +kernel
theorem hv_X5_blockFrom : yX5_blockFrom.cls = RX5 ∧ yX5_blockFrom.cls ≠ "java/lang/invoke/MethodHandle" ∧ yX5_blockFrom.cls ≠ "java/lang/invoke/VarHandle" ∧ (parseMethodDescriptor yX5_blockFrom.desc).map (fun d => d.parameters.length) = some 0 := by decide +kernel
theorem hv_X5_goBack : yX5_goBack.cls = RX5 ∧ yX5_goBack.cls ≠ "java/lang/invoke/MethodHandle" ∧ yX5_goBack.cls ≠ "java/lang/invoke/VarHandle" ∧ (parseMethodDescriptor yX5_goBack.desc).map (fun d => d.parameters.length) = some 1 := by decide +kernel
theorem hv_X5_getBlock : yX5_getBlock.cls = RX5 ∧ yX5_getBlock.cls ≠ "java/lang/invoke/MethodHandle" ∧ yX5_getBlock.cls ≠ "java/lang/invoke/VarHandle" ∧ (parseMethodDescriptor yX5_getBlock.desc).map (fun d => d.parameters.length) = some 1 := by decide +kernel
theorem hv_X5_giveOne : yX5_giveOne.cls = RX5 ∧ yX5_giveOne.cls ≠ "java/lang/invoke/MethodHandle" ∧ yX5_giveOne.cls ≠ "java/lang/invoke/VarHandle" ∧ (parseMethodDescriptor yX5_giveOne.desc).map (fun d => d.parameters.length) = some 1 := by decide +kernel
theorem hv_X5_makeHole : yX5_makeHole.cls = RX5 ∧ yX5_makeHole.cls ≠ "java/lang/invoke/MethodHandle" ∧ yX5_makeHole.cls ≠ "java/lang/invoke/VarHandle" ∧ (parseMethodDescriptor yX5_makeHole.desc).map (fun d => d.parameters.length) = some 2 := by decide +kernel
theorem hv_X5_wordAt : yX5_wordAt.cls = RX5 ∧ yX5_wordAt.cls ≠ "java/lang/invoke/MethodHandle" ∧ yX5_wordAt.cls ≠ "java/lang/invoke/VarHandle" ∧ (parseMethodDescriptor yX5_wordAt.desc).map (fun d => d.parameters.length) = some 0 := by decide +kernel
theorem hv_X5_kindAt : yX5_kindAt.cls = RX5 ∧ yX5_kindAt.cls ≠ "java/lang/invoke/MethodHandle" ∧ yX5_kindAt.cls ≠ "java/lang/invoke/VarHandle" ∧ (parseMethodDescriptor yX5_kindAt.desc).map (fun d => d.parameters.length) = some 0 := by decide +kernel
theorem hv_X5_number : yX5_number.cls = RX5 ∧ yX5_number.cls ≠ "java/lang/invoke/MethodHandle" ∧ yX5_number.cls ≠ "java/lang/invoke/VarHandle" ∧ (parseMethodDescriptor yX5_number.desc).map (fun d => d.parameters.length) = some 0 := by decide +kernel
theorem hv_X5_sees : yX5_sees.cls = RX5 ∧ yX5_sees.cls ≠ "java/lang/invoke/MethodHandle" ∧ yX5_sees.cls ≠ "java/lang/invoke/VarHandle" ∧ (parseMethodDescriptor yX5_sees.desc).map (fun d => d.parameters.length) = some 7 := by decide +kernel
theorem hv_X5_isLate : yX5_isLate.cls = RX5 ∧ yX5_isLate.cls ≠ "java/lang/invoke/MethodHandle" ∧ yX5_isLate.cls ≠ "java/lang/invoke/VarHandle" ∧ (parseMethodDescriptor yX5_isLate.desc).map (fun d => d.parameters.length) = some 1 := by decide +kernel
theorem hv_X5_isForm : yX5_isForm.cls = RX5 ∧ yX5_isForm.cls ≠ "java/lang/invoke/MethodHandle" ∧ yX5_isForm.cls ≠ "java/lang/invoke/VarHandle" ∧ (parseMethodDescriptor yX5_isForm.desc).map (fun d => d.parameters.length) = some 0 := by decide +kernel
theorem hv_X5_isRange : yX5_isRange.cls = RX5 ∧ yX5_isRange.cls ≠ "java/lang/invoke/MethodHandle" ∧ yX5_isRange.cls ≠ "java/lang/invoke/VarHandle" ∧ (parseMethodDescriptor yX5_isRange.desc).map (fun d => d.parameters.length) = some 0 := by decide +kernel
theorem hv_X5_isPossible : yX5_isPossible.cls = RX5 ∧ yX5_isPossible.cls ≠ "java/lang/invoke/MethodHandle" ∧ yX5_isPossible.cls ≠ "java/lang/invoke/VarHandle" ∧ (parseMethodDescriptor yX5_isPossible.desc).map (fun d => d.parameters.length) = some 0 := by decide +kernel
theorem hv_X5_goCommand : yX5_goCommand.cls = RX5 ∧ yX5_goCommand.cls ≠ "java/lang/invoke/MethodHandle" ∧ yX5_goCommand.cls ≠ "java/lang/invoke/VarHandle" ∧ (parseMethodDescriptor yX5_goCommand.desc).map (fun d => d.parameters.length) = some 0 := by decide +kernel
theorem hv_X5_has : yX5_has.cls = RX5 ∧ yX5_has.cls ≠ "java/lang/invoke/MethodHandle" ∧ yX5_has.cls ≠ "java/lang/invoke/VarHandle" ∧ (parseMethodDescriptor yX5_has.desc).map (fun d => d.parameters.length) = some 2 := by decide +kernel
theorem hs_X5_one : yX5_one.cls ≠ "java/lang/invoke/MethodHandle" ∧ yX5_one.cls ≠ "java/lang/invoke/VarHandle" ∧ (parseMethodDescriptor yX5_one.desc).map (fun d => d.parameters.length) = some 1 := by decide +kernel
theorem hv_X5_forgets : yX5_forgets.cls = RX5 ∧ yX5_forgets.cls ≠ "java/lang/invoke/MethodHandle" ∧ yX5_forgets.cls ≠ "java/lang/invoke/VarHandle" ∧ (parseMethodDescriptor yX5_forgets.desc).map (fun d => d.parameters.length) = some 1 := by decide +kernel
theorem sw_o_0_3 {x : Int32} (h0 : ¬ x = 0) (h1 : ¬ x = 1) (h2 : ¬ x = 2) : x.toInt < 0 ∨ 2 < x.toInt := by
  have g0 : x.toInt ≠ 0 := sw_ne h0
  have g1 : x.toInt ≠ 1 := sw_ne h1
  have g2 : x.toInt ≠ 2 := sw_ne h2
  omega
theorem sw_o_0_5 {x : Int32} (h0 : ¬ x = 0) (h1 : ¬ x = 1) (h2 : ¬ x = 2) (h3 : ¬ x = 3) (h4 : ¬ x = 4) : x.toInt < 0 ∨ 4 < x.toInt := by
  have g0 : x.toInt ≠ 0 := sw_ne h0
  have g1 : x.toInt ≠ 1 := sw_ne h1
  have g2 : x.toInt ≠ 2 := sw_ne h2
  have g3 : x.toInt ≠ 3 := sw_ne h3
  have g4 : x.toInt ≠ 4 := sw_ne h4
  omega
theorem sw_o_0_9 {x : Int32} (h0 : ¬ x = 0) (h1 : ¬ x = 1) (h2 : ¬ x = 2) (h3 : ¬ x = 3) (h4 : ¬ x = 4) (h5 : ¬ x = 5) (h6 : ¬ x = 6) (h7 : ¬ x = 7) (h8 : ¬ x = 8) : x.toInt < 0 ∨ 8 < x.toInt := by
  have g0 : x.toInt ≠ 0 := sw_ne h0
  have g1 : x.toInt ≠ 1 := sw_ne h1
  have g2 : x.toInt ≠ 2 := sw_ne h2
  have g3 : x.toInt ≠ 3 := sw_ne h3
  have g4 : x.toInt ≠ 4 := sw_ne h4
  have g5 : x.toInt ≠ 5 := sw_ne h5
  have g6 : x.toInt ≠ 6 := sw_ne h6
  have g7 : x.toInt ≠ 7 := sw_ne h7
  have g8 : x.toInt ≠ 8 := sw_ne h8
  omega
theorem sw_o_0_12 {x : Int32} (h0 : ¬ x = 0) (h1 : ¬ x = 1) (h2 : ¬ x = 2) (h3 : ¬ x = 3) (h4 : ¬ x = 4) (h5 : ¬ x = 5) (h6 : ¬ x = 6) (h7 : ¬ x = 7) (h8 : ¬ x = 8) (h9 : ¬ x = 9) (h10 : ¬ x = 10) (h11 : ¬ x = 11) : x.toInt < 0 ∨ 11 < x.toInt := by
  have g0 : x.toInt ≠ 0 := sw_ne h0
  have g1 : x.toInt ≠ 1 := sw_ne h1
  have g2 : x.toInt ≠ 2 := sw_ne h2
  have g3 : x.toInt ≠ 3 := sw_ne h3
  have g4 : x.toInt ≠ 4 := sw_ne h4
  have g5 : x.toInt ≠ 5 := sw_ne h5
  have g6 : x.toInt ≠ 6 := sw_ne h6
  have g7 : x.toInt ≠ 7 := sw_ne h7
  have g8 : x.toInt ≠ 8 := sw_ne h8
  have g9 : x.toInt ≠ 9 := sw_ne h9
  have g10 : x.toInt ≠ 10 := sw_ne h10
  have g11 : x.toInt ≠ 11 := sw_ne h11
  omega
theorem sw_o_1_4 {x : Int32} (h0 : ¬ x = 1) (h1 : ¬ x = 2) (h2 : ¬ x = 3) (h3 : ¬ x = 4) : x.toInt < 1 ∨ 4 < x.toInt := by
  have g0 : x.toInt ≠ 1 := sw_ne h0
  have g1 : x.toInt ≠ 2 := sw_ne h1
  have g2 : x.toInt ≠ 3 := sw_ne h2
  have g3 : x.toInt ≠ 4 := sw_ne h3
  omega
def f_X5_in (x0 : Int32) (x1 : Int32) (x2 : Int32) : Int32 :=
  if x0 < x1 then (
  0)
  else (
  if x2 < x0 then (
  0)
  else (
  1))
def f_X5_record_51 (zs : Nat → Int32) (zu : Int32) : Nat → Int32 → (Nat → Int32) → Option ((Nat → Int32) × Int32)
  | 0, _, _ => none
  | n + 1, x1, zb =>
    if 3053 ≤ x1 then (
    some (zb, (zu + 1)))
    else (
    ix x1 3053 <|
    ix ((3053 * zu) + x1) 12212 <|
    nb (upd zb ((3053 * zu) + x1).toNatClampNeg (zs (x1).toNatClampNeg)) fun y10 =>
    f_X5_record_51 zs zu n (x1 + 1) y10)
def f_X5_record_10 (K : Nat) (zs : Nat → Int32) (zu : Int32) : Nat → Int32 → (Nat → Int32) → Option ((Nat → Int32) × Int32)
  | 0, _, _ => none
  | n + 1, x1, zb =>
    if 9159 ≤ x1 then (
    f_X5_record_51 zs (zu - 1) K 0 zb)
    else (
    ix (3053 + x1) 12212 <|
    ix x1 12212 <|
    nb (upd zb (x1).toNatClampNeg (zb (3053 + x1).toNatClampNeg)) fun y5 =>
    f_X5_record_10 K zs zu n (x1 + 1) y5)
def f_X5_record (K : Nat) (zs : Nat → Int32) (zb : Nat → Int32) (zu : Int32) : Option ((Nat → Int32) × Int32) :=
  if zu = 4 then (
  f_X5_record_10 K zs zu K 0 zb)
  else (
  f_X5_record_51 zs zu K 0 zb)
def f_X5_layAside_2 (zs : Nat → Int32) : Nat → Int32 → (Nat → Int32) → Option ((Nat → Int32))
  | 0, _, _ => none
  | n + 1, x1, za =>
    if 3053 ≤ x1 then (
    some za)
    else (
    ix x1 3053 <|
    ix x1 3053 <|
    nb (upd za (x1).toNatClampNeg (zs (x1).toNatClampNeg)) fun y4 =>
    f_X5_layAside_2 zs n (x1 + 1) y4)
def f_X5_layAside (K : Nat) (zs : Nat → Int32) (za : Nat → Int32) : Option ((Nat → Int32)) :=
  f_X5_layAside_2 zs K 0 za
def f_X5_layBack_2 (za : Nat → Int32) : Nat → Int32 → (Nat → Int32) → Option ((Nat → Int32))
  | 0, _, _ => none
  | n + 1, x1, zs =>
    if 3053 ≤ x1 then (
    some zs)
    else (
    ix x1 3053 <|
    ix x1 3053 <|
    nb (upd zs (x1).toNatClampNeg (za (x1).toNatClampNeg)) fun y4 =>
    f_X5_layBack_2 za n (x1 + 1) y4)
def f_X5_layBack (K : Nat) (zs : Nat → Int32) (za : Nat → Int32) : Option ((Nat → Int32)) :=
  f_X5_layBack_2 za K 0 zs
def f_X5_n (x0 : Int32) : Int32 :=
  (48 + (5 * x0))
def f_X5_c (x0 : Int32) : Int32 :=
  (6 + (7 * x0))
def f_X5_isClerk (zs : Nat → Int32) (x1 : Int32) : Int32 :=
  (f_X5_in x1 0 ((zs 3) - 1))
def f_X5_isNumber (x0 : Int32) : Int32 :=
  (f_X5_in x0 1 600)
def f_X5_holds (zs : Nat → Int32) (x1 : Int32) : Option (Int32) :=
  ix ((f_X5_c x1) + 2) 3053 <|
  ix ((f_X5_c x1) + 1) 3053 <|
  some (((zs ((f_X5_c x1) + 2).toNatClampNeg) - (zs ((f_X5_c x1) + 1).toNatClampNeg)) + 1)
def f_X5_many_4 (x1 : Int32) (zs : Nat → Int32) : Nat → Int32 → Int32 → Option (Int32)
  | 0, _, _ => none
  | n + 1, x2, x3 =>
    if 600 < x3 then (
    some x2)
    else (
    ix ((f_X5_n x3) + 0) 3053 <|
    if (zs ((f_X5_n x3) + 0).toNatClampNeg) = x1 then (
    f_X5_many_4 x1 zs n (x2 + 1) (x3 + 1))
    else (
    f_X5_many_4 x1 zs n (x2 + 0) (x3 + 1)))
def f_X5_many (K : Nat) (zs : Nat → Int32) (x1 : Int32) : Option (Int32) :=
  f_X5_many_4 x1 zs K 0 1
def f_X5_lowest_2 (x1 : Int32) (zs : Nat → Int32) : Nat → Int32 → Option (Int32)
  | 0, _ => none
  | n + 1, x2 =>
    if 600 < x2 then (
    some x2)
    else (
    ix ((f_X5_n x2) + 0) 3053 <|
    if (zs ((f_X5_n x2) + 0).toNatClampNeg) = x1 then (
    some x2)
    else (
    f_X5_lowest_2 x1 zs n (x2 + 1)))
def f_X5_lowest (K : Nat) (zs : Nat → Int32) (x1 : Int32) : Option (Int32) :=
  f_X5_lowest_2 x1 zs K 1
def f_X5_goClerk (zs : Nat → Int32) (x1 : Int32) : Option (Int32 × (Nat → Int32)) :=
  ix ((f_X5_c (zs 3)) + 0) 3053 <|
  nb (upd zs ((f_X5_c (zs 3)) + 0).toNatClampNeg x1) fun y4 =>
  ix ((f_X5_c (zs 3)) + 1) 3053 <|
  nb (upd y4 ((f_X5_c (zs 3)) + 1).toNatClampNeg 1) fun y7 =>
  ix ((f_X5_c (zs 3)) + 2) 3053 <|
  nb (upd y7 ((f_X5_c (zs 3)) + 2).toNatClampNeg 0) fun y10 =>
  ix ((f_X5_c (zs 3)) + 6) 3053 <|
  nb (upd y10 ((f_X5_c (zs 3)) + 6).toNatClampNeg (-1)) fun y13 =>
  nb (upd y13 3 ((y13 3) + 1)) fun y15 =>
  some (((y15 3) - 1), y15)
def f_X5_clerk (K : Nat) (zs : Nat → Int32) (zb : Nat → Int32) (zu : Int32) (x1 : Int32) : Option (Int32 × (Nat → Int32) × (Nat → Int32) × Int32) :=
  if (f_X5_in x1 0 2) = 0 then (
  some ((-1), zs, zb, zu))
  else (
  if (zs 3) = 6 then (
  some ((-3), zs, zb, zu))
  else (
  (f_X5_record K zs zb zu).bind fun ⟨y6, y7⟩ =>
  (f_X5_goClerk zs x1).bind fun ⟨r10, y11⟩ =>
  some (r10, y11, y6, y7)))
def f_X5_blockFrom (K : Nat) (zs : Nat → Int32) : Option (Int32) :=
  if (zs 1) = 1 then (
  (f_X5_lowest K zs 3).bind fun r5 =>
  if 600 < r5 then (
  (f_X5_lowest K zs 0).bind fun r9 =>
  some r9)
  else (
  some r5))
  else (
  (f_X5_lowest K zs 0).bind fun r2 =>
  some r2)
def f_X5_getBlock_26 (x1 : Int32) (x2 : Int32) (x3 : Int32) (x4 : Int32) : Nat → Int32 → (Nat → Int32) → Option ((Nat → Int32))
  | 0, _, _ => none
  | n + 1, x5, zs =>
    if 600 < x5 then (
    ix (x2 + 1) 3053 <|
    nb (upd zs (x2 + 1).toNatClampNeg x3) fun y11 =>
    ix (x2 + 2) 3053 <|
    nb (upd y11 (x2 + 2).toNatClampNeg (x5 - 1)) fun y14 =>
    ix (x2 + 0) 3053 <|
    if (y14 (x2 + 0).toNatClampNeg) = 2 then (
    ix (x2 + 3) 3053 <|
    nb (upd y14 (x2 + 3).toNatClampNeg (x5 - 1)) fun y26 =>
    ix (x2 + 5) 3053 <|
    ix (x2 + 5) 3053 <|
    nb (upd y26 (x2 + 5).toNatClampNeg ((y26 (x2 + 5).toNatClampNeg) + 1)) fun y30 =>
    some y30)
    else (
    ix (x2 + 3) 3053 <|
    nb (upd y14 (x2 + 3).toNatClampNeg (x3 - 1)) fun y19 =>
    ix (x2 + 5) 3053 <|
    ix (x2 + 5) 3053 <|
    nb (upd y19 (x2 + 5).toNatClampNeg ((y19 (x2 + 5).toNatClampNeg) + 1)) fun y23 =>
    some y23))
    else (
    if (zs 0) ≤ (x5 - x3) then (
    ix (x2 + 1) 3053 <|
    nb (upd zs (x2 + 1).toNatClampNeg x3) fun y34 =>
    ix (x2 + 2) 3053 <|
    nb (upd y34 (x2 + 2).toNatClampNeg (x5 - 1)) fun y37 =>
    ix (x2 + 0) 3053 <|
    if (y37 (x2 + 0).toNatClampNeg) = 2 then (
    ix (x2 + 3) 3053 <|
    nb (upd y37 (x2 + 3).toNatClampNeg (x5 - 1)) fun y49 =>
    ix (x2 + 5) 3053 <|
    ix (x2 + 5) 3053 <|
    nb (upd y49 (x2 + 5).toNatClampNeg ((y49 (x2 + 5).toNatClampNeg) + 1)) fun y53 =>
    some y53)
    else (
    ix (x2 + 3) 3053 <|
    nb (upd y37 (x2 + 3).toNatClampNeg (x3 - 1)) fun y42 =>
    ix (x2 + 5) 3053 <|
    ix (x2 + 5) 3053 <|
    nb (upd y42 (x2 + 5).toNatClampNeg ((y42 (x2 + 5).toNatClampNeg) + 1)) fun y46 =>
    some y46))
    else (
    ix ((f_X5_n x5) + 0) 3053 <|
    if (zs ((f_X5_n x5) + 0).toNatClampNeg) = x4 then (
    ix ((f_X5_n x5) + 0) 3053 <|
    nb (upd zs ((f_X5_n x5) + 0).toNatClampNeg 1) fun y84 =>
    ix ((f_X5_n x5) + 1) 3053 <|
    nb (upd y84 ((f_X5_n x5) + 1).toNatClampNeg x1) fun y89 =>
    f_X5_getBlock_26 x1 x2 x3 x4 n (x5 + 1) y89)
    else (
    ix (x2 + 1) 3053 <|
    nb (upd zs (x2 + 1).toNatClampNeg x3) fun y60 =>
    ix (x2 + 2) 3053 <|
    nb (upd y60 (x2 + 2).toNatClampNeg (x5 - 1)) fun y63 =>
    ix (x2 + 0) 3053 <|
    if (y63 (x2 + 0).toNatClampNeg) = 2 then (
    ix (x2 + 3) 3053 <|
    nb (upd y63 (x2 + 3).toNatClampNeg (x5 - 1)) fun y75 =>
    ix (x2 + 5) 3053 <|
    ix (x2 + 5) 3053 <|
    nb (upd y75 (x2 + 5).toNatClampNeg ((y75 (x2 + 5).toNatClampNeg) + 1)) fun y79 =>
    some y79)
    else (
    ix (x2 + 3) 3053 <|
    nb (upd y63 (x2 + 3).toNatClampNeg (x3 - 1)) fun y68 =>
    ix (x2 + 5) 3053 <|
    ix (x2 + 5) 3053 <|
    nb (upd y68 (x2 + 5).toNatClampNeg ((y68 (x2 + 5).toNatClampNeg) + 1)) fun y72 =>
    some y72))))
def f_X5_getBlock (K : Nat) (zs : Nat → Int32) (x1 : Int32) : Option ((Nat → Int32)) :=
  (f_X5_blockFrom K zs).bind fun r3 =>
  ix ((f_X5_n r3) + 0) 3053 <|
  f_X5_getBlock_26 x1 (f_X5_c x1) r3 (zs ((f_X5_n r3) + 0).toNatClampNeg) K r3 zs
def f_X5_giveOne (K : Nat) (zs : Nat → Int32) (x1 : Int32) : Option ((Nat → Int32)) :=
  (f_X5_holds zs x1).bind fun r3 =>
  if r3 = 0 then (
  (f_X5_getBlock K zs x1).bind fun y55 =>
  ix ((f_X5_c x1) + 1) 3053 <|
  ix ((f_X5_c x1) + 1) 3053 <|
  ix ((f_X5_c x1) + 1) 3053 <|
  nb (upd y55 ((f_X5_c x1) + 1).toNatClampNeg ((y55 ((f_X5_c x1) + 1).toNatClampNeg) + 1)) fun y61 =>
  ix ((f_X5_n (y55 ((f_X5_c x1) + 1).toNatClampNeg)) + 0) 3053 <|
  nb (upd y61 ((f_X5_n (y55 ((f_X5_c x1) + 1).toNatClampNeg)) + 0).toNatClampNeg 2) fun y66 =>
  ix ((f_X5_n (y55 ((f_X5_c x1) + 1).toNatClampNeg)) + 2) 3053 <|
  nb (upd y66 ((f_X5_n (y55 ((f_X5_c x1) + 1).toNatClampNeg)) + 2).toNatClampNeg (y66 5)) fun y71 =>
  ix ((f_X5_n (y55 ((f_X5_c x1) + 1).toNatClampNeg)) + 3) 3053 <|
  nb (upd y71 ((f_X5_n (y55 ((f_X5_c x1) + 1).toNatClampNeg)) + 3).toNatClampNeg (y71 4)) fun y76 =>
  nb (upd y76 5 ((y76 5) + 1)) fun y78 =>
  ix ((f_X5_c x1) + 4) 3053 <|
  ix ((f_X5_c x1) + 4) 3053 <|
  nb (upd y78 ((f_X5_c x1) + 4).toNatClampNeg ((y78 ((f_X5_c x1) + 4).toNatClampNeg) + 1)) fun y82 =>
  ix ((f_X5_c x1) + 6) 3053 <|
  nb (upd y82 ((f_X5_c x1) + 6).toNatClampNeg (y55 ((f_X5_c x1) + 1).toNatClampNeg)) fun y85 =>
  ix ((f_X5_c x1) + 0) 3053 <|
  if (y85 ((f_X5_c x1) + 0).toNatClampNeg) = 0 then (
  ix ((f_X5_c x1) + 3) 3053 <|
  nb (upd y85 ((f_X5_c x1) + 3).toNatClampNeg (y55 ((f_X5_c x1) + 1).toNatClampNeg)) fun y103 =>
  some y103)
  else (
  ix ((f_X5_c x1) + 0) 3053 <|
  if (y85 ((f_X5_c x1) + 0).toNatClampNeg) = 1 then (
  ix ((f_X5_c x1) + 3) 3053 <|
  if (y55 ((f_X5_c x1) + 1).toNatClampNeg) ≤ (y85 ((f_X5_c x1) + 3).toNatClampNeg) then (
  some y85)
  else (
  ix ((f_X5_c x1) + 2) 3053 <|
  if (y85 ((f_X5_c x1) + 2).toNatClampNeg) ≤ (((y55 ((f_X5_c x1) + 1).toNatClampNeg) + (y85 2)) - 1) then (
  ix ((f_X5_c x1) + 2) 3053 <|
  ix ((f_X5_c x1) + 3) 3053 <|
  nb (upd y85 ((f_X5_c x1) + 3).toNatClampNeg (y85 ((f_X5_c x1) + 2).toNatClampNeg)) fun y97 =>
  some y97)
  else (
  ix ((f_X5_c x1) + 3) 3053 <|
  nb (upd y85 ((f_X5_c x1) + 3).toNatClampNeg (((y55 ((f_X5_c x1) + 1).toNatClampNeg) + (y85 2)) - 1)) fun y100 =>
  some y100)))
  else (
  some y85)))
  else (
  ix ((f_X5_c x1) + 1) 3053 <|
  ix ((f_X5_c x1) + 1) 3053 <|
  ix ((f_X5_c x1) + 1) 3053 <|
  nb (upd zs ((f_X5_c x1) + 1).toNatClampNeg ((zs ((f_X5_c x1) + 1).toNatClampNeg) + 1)) fun y10 =>
  ix ((f_X5_n (zs ((f_X5_c x1) + 1).toNatClampNeg)) + 0) 3053 <|
  nb (upd y10 ((f_X5_n (zs ((f_X5_c x1) + 1).toNatClampNeg)) + 0).toNatClampNeg 2) fun y15 =>
  ix ((f_X5_n (zs ((f_X5_c x1) + 1).toNatClampNeg)) + 2) 3053 <|
  nb (upd y15 ((f_X5_n (zs ((f_X5_c x1) + 1).toNatClampNeg)) + 2).toNatClampNeg (y15 5)) fun y20 =>
  ix ((f_X5_n (zs ((f_X5_c x1) + 1).toNatClampNeg)) + 3) 3053 <|
  nb (upd y20 ((f_X5_n (zs ((f_X5_c x1) + 1).toNatClampNeg)) + 3).toNatClampNeg (y20 4)) fun y25 =>
  nb (upd y25 5 ((y25 5) + 1)) fun y27 =>
  ix ((f_X5_c x1) + 4) 3053 <|
  ix ((f_X5_c x1) + 4) 3053 <|
  nb (upd y27 ((f_X5_c x1) + 4).toNatClampNeg ((y27 ((f_X5_c x1) + 4).toNatClampNeg) + 1)) fun y31 =>
  ix ((f_X5_c x1) + 6) 3053 <|
  nb (upd y31 ((f_X5_c x1) + 6).toNatClampNeg (zs ((f_X5_c x1) + 1).toNatClampNeg)) fun y34 =>
  ix ((f_X5_c x1) + 0) 3053 <|
  if (y34 ((f_X5_c x1) + 0).toNatClampNeg) = 0 then (
  ix ((f_X5_c x1) + 3) 3053 <|
  nb (upd y34 ((f_X5_c x1) + 3).toNatClampNeg (zs ((f_X5_c x1) + 1).toNatClampNeg)) fun y52 =>
  some y52)
  else (
  ix ((f_X5_c x1) + 0) 3053 <|
  if (y34 ((f_X5_c x1) + 0).toNatClampNeg) = 1 then (
  ix ((f_X5_c x1) + 3) 3053 <|
  if (zs ((f_X5_c x1) + 1).toNatClampNeg) ≤ (y34 ((f_X5_c x1) + 3).toNatClampNeg) then (
  some y34)
  else (
  ix ((f_X5_c x1) + 2) 3053 <|
  if (y34 ((f_X5_c x1) + 2).toNatClampNeg) ≤ (((zs ((f_X5_c x1) + 1).toNatClampNeg) + (y34 2)) - 1) then (
  ix ((f_X5_c x1) + 2) 3053 <|
  ix ((f_X5_c x1) + 3) 3053 <|
  nb (upd y34 ((f_X5_c x1) + 3).toNatClampNeg (y34 ((f_X5_c x1) + 2).toNatClampNeg)) fun y46 =>
  some y46)
  else (
  ix ((f_X5_c x1) + 3) 3053 <|
  nb (upd y34 ((f_X5_c x1) + 3).toNatClampNeg (((zs ((f_X5_c x1) + 1).toNatClampNeg) + (y34 2)) - 1)) fun y49 =>
  some y49)))
  else (
  some y34)))
def f_X5_canAsk (K : Nat) (zs : Nat → Int32) (x1 : Int32) (x2 : Int32) : Option (Int32) :=
  (f_X5_holds zs x1).bind fun r1 =>
  (f_X5_many K zs 0).bind fun r4 =>
  if (zs 1) = 1 then (
  (f_X5_many K zs 3).bind fun r9 =>
  if ((r1 + r4) + r9) < x2 then (
  some 0)
  else (
  some 1))
  else (
  if ((r1 + r4) + 0) < x2 then (
  some 0)
  else (
  some 1))
def f_X5_goAsk_2 (K : Nat) (x1 : Int32) (x2 : Int32) : Nat → Int32 → (Nat → Int32) → Option (Int32 × (Nat → Int32))
  | 0, _, _ => none
  | n + 1, x3, zs =>
    if x2 ≤ x3 then (
    ix ((f_X5_c x1) + 6) 3053 <|
    some ((zs ((f_X5_c x1) + 6).toNatClampNeg), zs))
    else (
    (f_X5_giveOne K zs x1).bind fun y6 =>
    f_X5_goAsk_2 K x1 x2 n (x3 + 1) y6)
def f_X5_goAsk (K : Nat) (zs : Nat → Int32) (x1 : Int32) (x2 : Int32) : Option (Int32 × (Nat → Int32)) :=
  f_X5_goAsk_2 K x1 x2 K 0 zs
def f_X5_ask (K : Nat) (zs : Nat → Int32) (zb : Nat → Int32) (zu : Int32) (x1 : Int32) (x2 : Int32) : Option (Int32 × (Nat → Int32) × (Nat → Int32) × Int32) :=
  if (f_X5_isClerk zs x1) = 0 then (
  some ((-1), zs, zb, zu))
  else (
  if (f_X5_in x2 1 50) = 0 then (
  some ((-1), zs, zb, zu))
  else (
  (f_X5_canAsk K zs x1 x2).bind fun r7 =>
  if r7 = 0 then (
  some ((-3), zs, zb, zu))
  else (
  (f_X5_record K zs zb zu).bind fun ⟨y12, y13⟩ =>
  (f_X5_goAsk K zs x1 x2).bind fun ⟨r16, y17⟩ =>
  some (r16, y17, y12, y13))))
def f_X5_makeHole (zs : Nat → Int32) (x1 : Int32) (x2 : Int32) : Option ((Nat → Int32)) :=
  ix ((f_X5_n x1) + 0) 3053 <|
  nb (upd zs ((f_X5_n x1) + 0).toNatClampNeg 4) fun y4 =>
  ix ((f_X5_n x1) + 4) 3053 <|
  nb (upd y4 ((f_X5_n x1) + 4).toNatClampNeg x2) fun y9 =>
  some y9
def f_X5_goForget_7 (x1 : Int32) (x2 : Int32) : Nat → Int32 → (Nat → Int32) → Option (Int32 × (Nat → Int32))
  | 0, _, _ => none
  | n + 1, x3, zs =>
    (f_X5_holds zs x1).bind fun r3 =>
    if r3 ≤ 0 then (
    some (x3, zs))
    else (
    ix (x2 + 1) 3053 <|
    ix (x2 + 3) 3053 <|
    if (zs (x2 + 3).toNatClampNeg) < (zs (x2 + 1).toNatClampNeg) then (
    some (x3, zs))
    else (
    ix (x2 + 1) 3053 <|
    (f_X5_makeHole zs (zs (x2 + 1).toNatClampNeg) 0).bind fun y12 =>
    ix (x2 + 1) 3053 <|
    ix (x2 + 1) 3053 <|
    nb (upd y12 (x2 + 1).toNatClampNeg ((y12 (x2 + 1).toNatClampNeg) + 1)) fun y17 =>
    f_X5_goForget_7 x1 x2 n (x3 + 1) y17))
def f_X5_goForget (K : Nat) (zs : Nat → Int32) (x1 : Int32) : Option (Int32 × (Nat → Int32)) :=
  f_X5_goForget_7 x1 (f_X5_c x1) K 0 zs
def f_X5_forget (K : Nat) (zs : Nat → Int32) (zb : Nat → Int32) (zu : Int32) (x1 : Int32) : Option (Int32 × (Nat → Int32) × (Nat → Int32) × Int32) :=
  if (f_X5_isClerk zs x1) = 0 then (
  some ((-1), zs, zb, zu))
  else (
  (f_X5_holds zs x1).bind fun r4 =>
  if r4 = 0 then (
  some ((-2), zs, zb, zu))
  else (
  (f_X5_record K zs zb zu).bind fun ⟨y9, y10⟩ =>
  (f_X5_goForget K zs x1).bind fun ⟨r13, y14⟩ =>
  some (r13, y14, y9, y10)))
def f_X5_goBack_11 (x2 : Int32) (x3 : Int32) : Nat → (Nat → Int32) → Option (Int32 × (Nat → Int32))
  | 0, _ => none
  | n + 1, zs =>
    ix (x2 + 1) 3053 <|
    ix (x2 + 2) 3053 <|
    if (zs (x2 + 2).toNatClampNeg) < (zs (x2 + 1).toNatClampNeg) then (
    some (x3, zs))
    else (
    if (zs 1) = 1 then (
    ix (x2 + 1) 3053 <|
    ix ((f_X5_n (zs (x2 + 1).toNatClampNeg)) + 0) 3053 <|
    nb (upd zs ((f_X5_n (zs (x2 + 1).toNatClampNeg)) + 0).toNatClampNeg 3) fun y23 =>
    ix (x2 + 1) 3053 <|
    ix ((f_X5_n (y23 (x2 + 1).toNatClampNeg)) + 1) 3053 <|
    nb (upd y23 ((f_X5_n (y23 (x2 + 1).toNatClampNeg)) + 1).toNatClampNeg (-1)) fun y29 =>
    ix (x2 + 1) 3053 <|
    ix (x2 + 1) 3053 <|
    nb (upd y29 (x2 + 1).toNatClampNeg ((y29 (x2 + 1).toNatClampNeg) + 1)) fun y33 =>
    f_X5_goBack_11 x2 x3 n y33)
    else (
    ix (x2 + 1) 3053 <|
    (f_X5_makeHole zs (zs (x2 + 1).toNatClampNeg) 1).bind fun y12 =>
    ix (x2 + 1) 3053 <|
    ix (x2 + 1) 3053 <|
    nb (upd y12 (x2 + 1).toNatClampNeg ((y12 (x2 + 1).toNatClampNeg) + 1)) fun y17 =>
    f_X5_goBack_11 x2 x3 n y17))
def f_X5_goBack (K : Nat) (zs : Nat → Int32) (x1 : Int32) : Option (Int32 × (Nat → Int32)) :=
  (f_X5_holds zs x1).bind fun r3 =>
  f_X5_goBack_11 (f_X5_c x1) r3 K zs
def f_X5_giveBack (K : Nat) (zs : Nat → Int32) (zb : Nat → Int32) (zu : Int32) (x1 : Int32) : Option (Int32 × (Nat → Int32) × (Nat → Int32) × Int32) :=
  if (f_X5_isClerk zs x1) = 0 then (
  some ((-1), zs, zb, zu))
  else (
  (f_X5_holds zs x1).bind fun r4 =>
  if r4 = 0 then (
  some ((-2), zs, zb, zu))
  else (
  (f_X5_record K zs zb zu).bind fun ⟨y9, y10⟩ =>
  (f_X5_goBack K zs x1).bind fun ⟨r13, y14⟩ =>
  some (r13, y14, y9, y10)))
def f_X5_makeVoid (K : Nat) (zs : Nat → Int32) (zb : Nat → Int32) (zu : Int32) (x1 : Int32) : Option (Int32 × (Nat → Int32) × (Nat → Int32) × Int32) :=
  if (f_X5_isNumber x1) = 0 then (
  some ((-1), zs, zb, zu))
  else (
  ix ((f_X5_n x1) + 0) 3053 <|
  if (zs ((f_X5_n x1) + 0).toNatClampNeg) = 2 then (
  (f_X5_record K zs zb zu).bind fun ⟨y9, y10⟩ =>
  (f_X5_makeHole zs x1 2).bind fun y14 =>
  ix ((f_X5_n x1) + 1) 3053 <|
  some ((y14 ((f_X5_n x1) + 1).toNatClampNeg), y14, y9, y10))
  else (
  some ((-2), zs, zb, zu)))
def f_X5_goClose_58 (x1 : Int32) : Nat → Int32 → (Nat → Int32) → Option (Int32 × (Nat → Int32))
  | 0, _, _ => none
  | n + 1, x2, zs =>
    if (zs 3) ≤ x2 then (
    nb (upd zs 4 ((zs 4) + 1)) fun y19 =>
    some (x1, y19))
    else (
    ix ((f_X5_c x2) + 2) 3053 <|
    ix ((f_X5_c x2) + 1) 3053 <|
    nb (upd zs ((f_X5_c x2) + 1).toNatClampNeg ((zs ((f_X5_c x2) + 2).toNatClampNeg) + 1)) fun y27 =>
    f_X5_goClose_58 x1 n (x2 + 1) y27)
def f_X5_goClose_4 (K : Nat) : Nat → Int32 → Int32 → (Nat → Int32) → Option (Int32 × (Nat → Int32))
  | 0, _, _, _ => none
  | n + 1, x1, x2, zs =>
    if 600 < x2 then (
    f_X5_goClose_58 x1 K 0 zs)
    else (
    ix ((f_X5_n x2) + 0) 3053 <|
    if (zs ((f_X5_n x2) + 0).toNatClampNeg) = 1 then (
    (f_X5_makeHole zs x2 3).bind fun y7 =>
    f_X5_goClose_4 K n (x1 + 1) (x2 + 1) y7)
    else (
    ix ((f_X5_n x2) + 0) 3053 <|
    if (zs ((f_X5_n x2) + 0).toNatClampNeg) = 3 then (
    (f_X5_makeHole zs x2 3).bind fun y15 =>
    f_X5_goClose_4 K n (x1 + 1) (x2 + 1) y15)
    else (
    f_X5_goClose_4 K n x1 (x2 + 1) zs)))
def f_X5_goClose (K : Nat) (zs : Nat → Int32) : Option (Int32 × (Nat → Int32)) :=
  f_X5_goClose_4 K K 0 1 zs
def f_X5_close (K : Nat) (zs : Nat → Int32) (zb : Nat → Int32) (zu : Int32) : Option (Int32 × (Nat → Int32) × (Nat → Int32) × Int32) :=
  (f_X5_record K zs zb zu).bind fun ⟨y2, y3⟩ =>
  (f_X5_goClose K zs).bind fun ⟨r6, y7⟩ =>
  some (r6, y7, y2, y3)
def f_X5_set (K : Nat) (zs : Nat → Int32) (zb : Nat → Int32) (zu : Int32) (x1 : Int32) (x2 : Int32) : Option (Int32 × (Nat → Int32) × (Nat → Int32) × Int32) :=
  if x1 = 0 then (
  if (f_X5_in x2 1 50) = 0 then (
  some ((-1), zs, zb, zu))
  else (
  (f_X5_record K zs zb zu).bind fun ⟨y32, y33⟩ =>
  ix x1 3053 <|
  ix x1 3053 <|
  nb (upd zs (x1).toNatClampNeg x2) fun y38 =>
  some ((zs (x1).toNatClampNeg), y38, y32, y33)))
  else (
  if x1 = 1 then (
  if (f_X5_in x2 0 1) = 0 then (
  some ((-1), zs, zb, zu))
  else (
  (f_X5_record K zs zb zu).bind fun ⟨y20, y21⟩ =>
  ix x1 3053 <|
  ix x1 3053 <|
  nb (upd zs (x1).toNatClampNeg x2) fun y26 =>
  some ((zs (x1).toNatClampNeg), y26, y20, y21)))
  else (
  if x1 = 2 then (
  if (f_X5_in x2 2 10) = 0 then (
  some ((-1), zs, zb, zu))
  else (
  (f_X5_record K zs zb zu).bind fun ⟨y8, y9⟩ =>
  ix x1 3053 <|
  ix x1 3053 <|
  nb (upd zs (x1).toNatClampNeg x2) fun y14 =>
  some ((zs (x1).toNatClampNeg), y14, y8, y9)))
  else (
  some ((-1), zs, zb, zu))))
def f_X5_isLate_6 (x1 : Int32) (zs : Nat → Int32) : Nat → Int32 → Int32 → Option (Int32)
  | 0, _, _ => none
  | n + 1, x2, x3 =>
    if 600 < x3 then (
    some x2)
    else (
    ix ((f_X5_n x3) + 2) 3053 <|
    if (zs ((f_X5_n x3) + 2).toNatClampNeg) < 0 then (
    f_X5_isLate_6 x1 zs n (x2 ||| 0) (x3 + 1))
    else (
    ix ((f_X5_n x3) + 2) 3053 <|
    ix ((f_X5_n x1) + 2) 3053 <|
    if (zs ((f_X5_n x1) + 2).toNatClampNeg) ≤ (zs ((f_X5_n x3) + 2).toNatClampNeg) then (
    f_X5_isLate_6 x1 zs n (x2 ||| 0) (x3 + 1))
    else (
    f_X5_isLate_6 x1 zs n (x2 ||| 1) (x3 + 1))))
def f_X5_isLate (K : Nat) (zs : Nat → Int32) (x1 : Int32) : Option (Int32) :=
  f_X5_isLate_6 x1 zs K 0 (x1 + 1)
def f_X5_numberOf (K : Nat) (zs : Nat → Int32) (x1 : Int32) (x2 : Int32) : Option (Int32) :=
  if (f_X5_isNumber x1) = 0 then (
  some (-1))
  else (
  if (f_X5_in x2 0 5) = 0 then (
  some (-1))
  else (
  ix ((f_X5_n x1) + 2) 3053 <|
  if (zs ((f_X5_n x1) + 2).toNatClampNeg) < 0 then (
  if x2 = 0 then (
  ix ((f_X5_n x1) + 0) 3053 <|
  some (zs ((f_X5_n x1) + 0).toNatClampNeg))
  else (
  if x2 = 1 then (
  ix ((f_X5_n x1) + 1) 3053 <|
  if 0 ≤ (zs ((f_X5_n x1) + 1).toNatClampNeg) then (
  ix ((f_X5_n x1) + 1) 3053 <|
  some (zs ((f_X5_n x1) + 1).toNatClampNeg))
  else (
  some (-4)))
  else (
  if x2 = 2 then (
  some (-4))
  else (
  if x2 = 3 then (
  some (-4))
  else (
  if x2 = 4 then (
  ix ((f_X5_n x1) + 0) 3053 <|
  if (zs ((f_X5_n x1) + 0).toNatClampNeg) = 4 then (
  ix ((f_X5_n x1) + 4) 3053 <|
  some (zs ((f_X5_n x1) + 4).toNatClampNeg))
  else (
  some (-4)))
  else (
  some (-4)))))))
  else (
  if x2 = 0 then (
  ix ((f_X5_n x1) + 0) 3053 <|
  some (zs ((f_X5_n x1) + 0).toNatClampNeg))
  else (
  if x2 = 1 then (
  ix ((f_X5_n x1) + 1) 3053 <|
  if 0 ≤ (zs ((f_X5_n x1) + 1).toNatClampNeg) then (
  ix ((f_X5_n x1) + 1) 3053 <|
  some (zs ((f_X5_n x1) + 1).toNatClampNeg))
  else (
  some (-4)))
  else (
  if x2 = 2 then (
  ix ((f_X5_n x1) + 2) 3053 <|
  some (zs ((f_X5_n x1) + 2).toNatClampNeg))
  else (
  if x2 = 3 then (
  ix ((f_X5_n x1) + 3) 3053 <|
  some (zs ((f_X5_n x1) + 3).toNatClampNeg))
  else (
  if x2 = 4 then (
  ix ((f_X5_n x1) + 0) 3053 <|
  if (zs ((f_X5_n x1) + 0).toNatClampNeg) = 4 then (
  ix ((f_X5_n x1) + 4) 3053 <|
  some (zs ((f_X5_n x1) + 4).toNatClampNeg))
  else (
  some (-4)))
  else (
  (f_X5_isLate K zs x1).bind fun r37 =>
  if r37 = 0 then (
  some 0)
  else (
  some 1)))))))))
def f_X5_holesOf_5 (x1 : Int32) (x2 : Int32) (zs : Nat → Int32) : Nat → Int32 → Int32 → Option (Int32)
  | 0, _, _ => none
  | n + 1, x3, x4 =>
    if 600 < x4 then (
    some x3)
    else (
    ix ((f_X5_n x4) + 0) 3053 <|
    if (zs ((f_X5_n x4) + 0).toNatClampNeg) = 4 then (
    ix ((f_X5_n x4) + 1) 3053 <|
    if (zs ((f_X5_n x4) + 1).toNatClampNeg) = x1 then (
    if x2 < 0 then (
    f_X5_holesOf_5 x1 x2 zs n (x3 + 1) (x4 + 1))
    else (
    ix ((f_X5_n x4) + 4) 3053 <|
    if (zs ((f_X5_n x4) + 4).toNatClampNeg) = x2 then (
    f_X5_holesOf_5 x1 x2 zs n (x3 + 1) (x4 + 1))
    else (
    f_X5_holesOf_5 x1 x2 zs n (x3 + 0) (x4 + 1))))
    else (
    f_X5_holesOf_5 x1 x2 zs n (x3 + 0) (x4 + 1)))
    else (
    f_X5_holesOf_5 x1 x2 zs n (x3 + 0) (x4 + 1)))
def f_X5_holesOf (K : Nat) (zs : Nat → Int32) (x1 : Int32) (x2 : Int32) : Option (Int32) :=
  f_X5_holesOf_5 x1 x2 zs K 0 1
def f_X5_clerkOf (K : Nat) (zs : Nat → Int32) (x1 : Int32) (x2 : Int32) : Option (Int32) :=
  if (f_X5_isClerk zs x1) = 0 then (
  some (-1))
  else (
  if (f_X5_in x2 0 9) = 0 then (
  some (-1))
  else (
  if x2 ≤ 1 then (
  if x2 = 0 then (
  ix ((f_X5_c x1) + 0) 3053 <|
  some (zs ((f_X5_c x1) + 0).toNatClampNeg))
  else (
  if x2 = 1 then (
  (f_X5_holds zs x1).bind fun r13 =>
  some r13)
  else (
  if x2 = 2 then (
  ix ((f_X5_c x1) + 1) 3053 <|
  some (zs ((f_X5_c x1) + 1).toNatClampNeg))
  else (
  if x2 = 3 then (
  ix ((f_X5_c x1) + 2) 3053 <|
  some (zs ((f_X5_c x1) + 2).toNatClampNeg))
  else (
  if x2 = 4 then (
  ix ((f_X5_c x1) + 3) 3053 <|
  some (zs ((f_X5_c x1) + 3).toNatClampNeg))
  else (
  if x2 = 5 then (
  ix ((f_X5_c x1) + 4) 3053 <|
  some (zs ((f_X5_c x1) + 4).toNatClampNeg))
  else (
  if x2 = 6 then (
  (f_X5_holesOf K zs x1 (-1)).bind fun r25 =>
  some r25)
  else (
  if x2 = 7 then (
  (f_X5_holesOf K zs x1 0).bind fun r29 =>
  some r29)
  else (
  if x2 = 8 then (
  ix ((f_X5_c x1) + 5) 3053 <|
  some (zs ((f_X5_c x1) + 5).toNatClampNeg))
  else (
  ix ((f_X5_c x1) + 4) 3053 <|
  if (zs ((f_X5_c x1) + 4).toNatClampNeg) = 0 then (
  some (-4))
  else (
  ix ((f_X5_c x1) + 6) 3053 <|
  some (zs ((f_X5_c x1) + 6).toNatClampNeg))))))))))))
  else (
  if 5 ≤ x2 then (
  if x2 = 0 then (
  ix ((f_X5_c x1) + 0) 3053 <|
  some (zs ((f_X5_c x1) + 0).toNatClampNeg))
  else (
  if x2 = 1 then (
  (f_X5_holds zs x1).bind fun r41 =>
  some r41)
  else (
  if x2 = 2 then (
  ix ((f_X5_c x1) + 1) 3053 <|
  some (zs ((f_X5_c x1) + 1).toNatClampNeg))
  else (
  if x2 = 3 then (
  ix ((f_X5_c x1) + 2) 3053 <|
  some (zs ((f_X5_c x1) + 2).toNatClampNeg))
  else (
  if x2 = 4 then (
  ix ((f_X5_c x1) + 3) 3053 <|
  some (zs ((f_X5_c x1) + 3).toNatClampNeg))
  else (
  if x2 = 5 then (
  ix ((f_X5_c x1) + 4) 3053 <|
  some (zs ((f_X5_c x1) + 4).toNatClampNeg))
  else (
  if x2 = 6 then (
  (f_X5_holesOf K zs x1 (-1)).bind fun r53 =>
  some r53)
  else (
  if x2 = 7 then (
  (f_X5_holesOf K zs x1 0).bind fun r57 =>
  some r57)
  else (
  if x2 = 8 then (
  ix ((f_X5_c x1) + 5) 3053 <|
  some (zs ((f_X5_c x1) + 5).toNatClampNeg))
  else (
  ix ((f_X5_c x1) + 4) 3053 <|
  if (zs ((f_X5_c x1) + 4).toNatClampNeg) = 0 then (
  some (-4))
  else (
  ix ((f_X5_c x1) + 6) 3053 <|
  some (zs ((f_X5_c x1) + 6).toNatClampNeg))))))))))))
  else (
  (f_X5_holds zs x1).bind fun r65 =>
  if r65 = 0 then (
  some (-4))
  else (
  if x2 = 0 then (
  ix ((f_X5_c x1) + 0) 3053 <|
  some (zs ((f_X5_c x1) + 0).toNatClampNeg))
  else (
  if x2 = 1 then (
  (f_X5_holds zs x1).bind fun r72 =>
  some r72)
  else (
  if x2 = 2 then (
  ix ((f_X5_c x1) + 1) 3053 <|
  some (zs ((f_X5_c x1) + 1).toNatClampNeg))
  else (
  if x2 = 3 then (
  ix ((f_X5_c x1) + 2) 3053 <|
  some (zs ((f_X5_c x1) + 2).toNatClampNeg))
  else (
  if x2 = 4 then (
  ix ((f_X5_c x1) + 3) 3053 <|
  some (zs ((f_X5_c x1) + 3).toNatClampNeg))
  else (
  if x2 = 5 then (
  ix ((f_X5_c x1) + 4) 3053 <|
  some (zs ((f_X5_c x1) + 4).toNatClampNeg))
  else (
  if x2 = 6 then (
  (f_X5_holesOf K zs x1 (-1)).bind fun r84 =>
  some r84)
  else (
  if x2 = 7 then (
  (f_X5_holesOf K zs x1 0).bind fun r88 =>
  some r88)
  else (
  if x2 = 8 then (
  ix ((f_X5_c x1) + 5) 3053 <|
  some (zs ((f_X5_c x1) + 5).toNatClampNeg))
  else (
  ix ((f_X5_c x1) + 4) 3053 <|
  if (zs ((f_X5_c x1) + 4).toNatClampNeg) = 0 then (
  some (-4))
  else (
  ix ((f_X5_c x1) + 6) 3053 <|
  some (zs ((f_X5_c x1) + 6).toNatClampNeg))))))))))))))))
def f_X5_goesOn (zs : Nat → Int32) (x1 : Int32) (x2 : Int32) : Option (Int32) :=
  if x1 ≤ 1 then (
  some 0)
  else (
  ix ((f_X5_n x1) + 0) 3053 <|
  if (zs ((f_X5_n x1) + 0).toNatClampNeg) = x2 then (
  ix ((f_X5_n (x1 - 1)) + 0) 3053 <|
  if (zs ((f_X5_n (x1 - 1)) + 0).toNatClampNeg) = x2 then (
  if x2 = 3 then (
  some 1)
  else (
  ix ((f_X5_n x1) + 4) 3053 <|
  ix ((f_X5_n (x1 - 1)) + 4) 3053 <|
  if (zs ((f_X5_n x1) + 4).toNatClampNeg) = (zs ((f_X5_n (x1 - 1)) + 4).toNatClampNeg) then (
  ix ((f_X5_n x1) + 1) 3053 <|
  ix ((f_X5_n (x1 - 1)) + 1) 3053 <|
  if (zs ((f_X5_n x1) + 1).toNatClampNeg) = (zs ((f_X5_n (x1 - 1)) + 1).toNatClampNeg) then (
  some 1)
  else (
  some 0))
  else (
  some 0)))
  else (
  some 0))
  else (
  some 0))
def f_X5_rowAt_5 (x2 : Int32) (zs : Nat → Int32) : Nat → Int32 → Int32 → Option (Int32)
  | 0, _, _ => none
  | n + 1, x3, x4 =>
    if 600 < x4 then (
    some 601)
    else (
    ix ((f_X5_n x4) + 0) 3053 <|
    if (zs ((f_X5_n x4) + 0).toNatClampNeg) = x2 then (
    (f_X5_goesOn zs x4 x2).bind fun r6 =>
    if r6 = 0 then (
    if x3 = 0 then (
    some x4)
    else (
    f_X5_rowAt_5 x2 zs n (x3 + (-1)) (x4 + 1)))
    else (
    f_X5_rowAt_5 x2 zs n x3 (x4 + 1)))
    else (
    f_X5_rowAt_5 x2 zs n x3 (x4 + 1)))
def f_X5_rowAt (K : Nat) (zs : Nat → Int32) (x1 : Int32) (x2 : Int32) : Option (Int32) :=
  f_X5_rowAt_5 x2 zs K x1 1
def f_X5_endOf_2 (x2 : Int32) (zs : Nat → Int32) : Nat → Int32 → Option (Int32)
  | 0, _ => none
  | n + 1, x3 =>
    if 600 ≤ x3 then (
    some x3)
    else (
    (f_X5_goesOn zs (x3 + 1) x2).bind fun r2 =>
    if r2 = 0 then (
    some x3)
    else (
    f_X5_endOf_2 x2 zs n (x3 + 1)))
def f_X5_endOf (K : Nat) (zs : Nat → Int32) (x1 : Int32) (x2 : Int32) : Option (Int32) :=
  f_X5_endOf_2 x2 zs K x1
def f_X5_holesAt (K : Nat) (zs : Nat → Int32) (x1 : Int32) (x2 : Int32) : Option (Int32) :=
  if x1 < 0 then (
  some (-1))
  else (
  if (f_X5_in x2 0 3) = 0 then (
  some (-1))
  else (
  (f_X5_rowAt K zs x1 4).bind fun r5 =>
  if r5 ≤ 600 then (
  if x2 = 0 then (
  some r5)
  else (
  if x2 = 1 then (
  (f_X5_endOf K zs r5 4).bind fun r11 =>
  some r11)
  else (
  if x2 = 2 then (
  ix ((f_X5_n r5) + 4) 3053 <|
  some (zs ((f_X5_n r5) + 4).toNatClampNeg))
  else (
  ix ((f_X5_n r5) + 1) 3053 <|
  if 0 ≤ (zs ((f_X5_n r5) + 1).toNatClampNeg) then (
  ix ((f_X5_n r5) + 1) 3053 <|
  some (zs ((f_X5_n r5) + 1).toNatClampNeg))
  else (
  some (-4))))))
  else (
  some (-4))))
def f_X5_freeAt (K : Nat) (zs : Nat → Int32) (x1 : Int32) (x2 : Int32) : Option (Int32) :=
  if x1 < 0 then (
  some (-1))
  else (
  if (f_X5_in x2 0 1) = 0 then (
  some (-1))
  else (
  (f_X5_rowAt K zs x1 3).bind fun r5 =>
  if r5 ≤ 600 then (
  if x2 = 0 then (
  some r5)
  else (
  (f_X5_endOf K zs r5 3).bind fun r10 =>
  some r10))
  else (
  some (-4))))
def f_X5_turnAt_8 (x1 : Int32) (zs : Nat → Int32) : Nat → Int32 → Option (Int32)
  | 0, _ => none
  | n + 1, x2 =>
    if 600 < x2 then (
    some (-4))
    else (
    ix ((f_X5_n x2) + 2) 3053 <|
    if (zs ((f_X5_n x2) + 2).toNatClampNeg) = x1 then (
    some x2)
    else (
    f_X5_turnAt_8 x1 zs n (x2 + 1)))
def f_X5_turnAt (K : Nat) (zs : Nat → Int32) (x1 : Int32) : Option (Int32) :=
  if 0 ≤ x1 then (
  f_X5_turnAt_8 x1 zs K 1)
  else (
  some (-1))
def f_X5_among_46 (x2 : Int32) (x3 : Int32) (zs : Nat → Int32) : Nat → Int32 → Int32 → Option (Int32)
  | 0, _, _ => none
  | n + 1, x4, x5 =>
    if x2 < x5 then (
    some x4)
    else (
    ix ((f_X5_n x5) + 0) 3053 <|
    if 10 ≤ x3 then (
    if (zs ((f_X5_n x5) + 0).toNatClampNeg) = 4 then (
    ix ((f_X5_n x5) + 4) 3053 <|
    if (zs ((f_X5_n x5) + 4).toNatClampNeg) = (x3 - 10) then (
    f_X5_among_46 x2 x3 zs n (x4 + 1) (x5 + 1))
    else (
    f_X5_among_46 x2 x3 zs n (x4 + 0) (x5 + 1)))
    else (
    f_X5_among_46 x2 x3 zs n (x4 + 0) (x5 + 1)))
    else (
    if (zs ((f_X5_n x5) + 0).toNatClampNeg) = x3 then (
    f_X5_among_46 x2 x3 zs n (x4 + 1) (x5 + 1))
    else (
    f_X5_among_46 x2 x3 zs n (x4 + 0) (x5 + 1))))
def f_X5_among (K : Nat) (zs : Nat → Int32) (x1 : Int32) (x2 : Int32) (x3 : Int32) : Option (Int32) :=
  if (f_X5_isNumber x1) = 0 then (
  some (-1))
  else (
  if (f_X5_in x2 x1 600) = 0 then (
  some (-1))
  else (
  if (f_X5_in x3 0 4) = 0 then (
  if (f_X5_in x3 10 13) = 0 then (
  some (-1))
  else (
  f_X5_among_46 x2 x3 zs K 0 x1))
  else (
  f_X5_among_46 x2 x3 zs K 0 x1)))
def f_X5_lateMany_13 (zs : Nat → Int32) : Nat → Int32 → Int32 → Int32 → Option (Int32)
  | 0, _, _, _ => none
  | n + 1, x1, x2, x3 =>
    if x3 ≤ 0 then (
    some x1)
    else (
    ix ((f_X5_n x3) + 2) 3053 <|
    if (zs ((f_X5_n x3) + 2).toNatClampNeg) ≤ x2 then (
    if (zs ((f_X5_n x3) + 2).toNatClampNeg) < 0 then (
    f_X5_lateMany_13 zs n (x1 + 0) x2 (x3 + (-1)))
    else (
    if x2 ≤ (zs ((f_X5_n x3) + 2).toNatClampNeg) then (
    f_X5_lateMany_13 zs n (x1 + 0) x2 (x3 + (-1)))
    else (
    f_X5_lateMany_13 zs n (x1 + 0) (zs ((f_X5_n x3) + 2).toNatClampNeg) (x3 + (-1)))))
    else (
    if (zs ((f_X5_n x3) + 2).toNatClampNeg) < 0 then (
    f_X5_lateMany_13 zs n (x1 + 1) x2 (x3 + (-1)))
    else (
    if x2 ≤ (zs ((f_X5_n x3) + 2).toNatClampNeg) then (
    f_X5_lateMany_13 zs n (x1 + 1) x2 (x3 + (-1)))
    else (
    f_X5_lateMany_13 zs n (x1 + 1) (zs ((f_X5_n x3) + 2).toNatClampNeg) (x3 + (-1))))))
def f_X5_lateMany (K : Nat) (zs : Nat → Int32) : Option (Int32) :=
  f_X5_lateMany_13 zs K 0 (zs 5) 600
def f_X5_rows_4 (zs : Nat → Int32) : Nat → Int32 → Int32 → Option (Int32)
  | 0, _, _ => none
  | n + 1, x1, x2 =>
    if 600 < x2 then (
    some x1)
    else (
    ix ((f_X5_n x2) + 0) 3053 <|
    if (zs ((f_X5_n x2) + 0).toNatClampNeg) = 4 then (
    (f_X5_goesOn zs x2 4).bind fun r6 =>
    if r6 = 0 then (
    f_X5_rows_4 zs n (x1 + 1) (x2 + 1))
    else (
    f_X5_rows_4 zs n (x1 + 0) (x2 + 1)))
    else (
    f_X5_rows_4 zs n (x1 + 0) (x2 + 1)))
def f_X5_rows (K : Nat) (zs : Nat → Int32) : Option (Int32) :=
  f_X5_rows_4 zs K 0 1
def f_X5_whole_2 (zs : Nat → Int32) : Nat → Int32 → Option (Int32)
  | 0, _ => none
  | n + 1, x1 =>
    if 600 < x1 then (
    some (x1 - 1))
    else (
    ix ((f_X5_n x1) + 0) 3053 <|
    if (zs ((f_X5_n x1) + 0).toNatClampNeg) = 2 then (
    f_X5_whole_2 zs n (x1 + 1))
    else (
    some (x1 - 1)))
def f_X5_whole (K : Nat) (zs : Nat → Int32) : Option (Int32) :=
  f_X5_whole_2 zs K 1
def f_X5_count (K : Nat) (zs : Nat → Int32) (zl : Int32) (zu : Int32) (x1 : Int32) : Option (Int32) :=
  if x1 = 0 then (
  some (zs 3))
  else (
  if x1 = 1 then (
  some (zs 4))
  else (
  if x1 = 2 then (
  some (zs 5))
  else (
  if x1 = 3 then (
  (f_X5_many K zs 1).bind fun r5 =>
  some r5)
  else (
  if x1 = 4 then (
  (f_X5_many K zs 3).bind fun r9 =>
  some r9)
  else (
  if x1 = 5 then (
  (f_X5_many K zs 4).bind fun r13 =>
  some r13)
  else (
  if x1 = 6 then (
  (f_X5_lowest K zs 0).bind fun r17 =>
  some r17)
  else (
  if x1 = 7 then (
  (f_X5_lateMany K zs).bind fun r21 =>
  some r21)
  else (
  if x1 = 8 then (
  (f_X5_whole K zs).bind fun r25 =>
  some r25)
  else (
  if x1 = 9 then (
  (f_X5_rows K zs).bind fun r29 =>
  some r29)
  else (
  if x1 = 10 then (
  some zu)
  else (
  if x1 = 11 then (
  some zl)
  else (
  if (f_X5_in x1 20 22) = 0 then (
  some (-1))
  else (
  ix (x1 - 20) 3053 <|
  some (zs (x1 - 20).toNatClampNeg))))))))))))))
def f_X5_next (K : Nat) (zs : Nat → Int32) (x1 : Int32) : Option (Int32) :=
  if (f_X5_isClerk zs x1) = 0 then (
  some (-1))
  else (
  (f_X5_holds zs x1).bind fun r4 =>
  if r4 ≤ 0 then (
  (f_X5_blockFrom K zs).bind fun r8 =>
  if r8 ≤ 600 then (
  some r8)
  else (
  some (-3)))
  else (
  ix ((f_X5_c x1) + 1) 3053 <|
  if (zs ((f_X5_c x1) + 1).toNatClampNeg) ≤ 600 then (
  some (zs ((f_X5_c x1) + 1).toNatClampNeg))
  else (
  some (-3))))
def f_X5_cost (K : Nat) (zs : Nat → Int32) (za : Nat → Int32) (x1 : Int32) (x2 : Int32) : Option (Int32 × (Nat → Int32) × (Nat → Int32)) :=
  if (f_X5_isClerk zs x1) = 0 then (
  some ((-1), zs, za))
  else (
  if (f_X5_in x2 0 50) = 0 then (
  some ((-1), zs, za))
  else (
  (f_X5_canAsk K zs x1 x2).bind fun r7 =>
  if r7 = 0 then (
  some ((-3), zs, za))
  else (
  (f_X5_layAside K zs za).bind fun y12 =>
  (f_X5_goAsk K zs x1 x2).bind fun ⟨r15, y16⟩ =>
  (f_X5_goForget K y16 x1).bind fun ⟨r19, y20⟩ =>
  (f_X5_layBack K y20 y12).bind fun y24 =>
  some (r19, y24, y12))))
def f_X5_forgets (zs : Nat → Int32) (x1 : Int32) : Option (Int32) :=
  ix ((f_X5_c x1) + 3) 3053 <|
  ix ((f_X5_c x1) + 2) 3053 <|
  if (zs ((f_X5_c x1) + 2).toNatClampNeg) ≤ (zs ((f_X5_c x1) + 3).toNatClampNeg) then (
  ix ((f_X5_c x1) + 2) 3053 <|
  (f_X5_holds zs x1).bind fun r7 =>
  if r7 = 0 then (
  some 0)
  else (
  ix ((f_X5_c x1) + 1) 3053 <|
  if (zs ((f_X5_c x1) + 1).toNatClampNeg) ≤ (zs ((f_X5_c x1) + 2).toNatClampNeg) then (
  ix ((f_X5_c x1) + 1) 3053 <|
  some (((zs ((f_X5_c x1) + 2).toNatClampNeg) - (zs ((f_X5_c x1) + 1).toNatClampNeg)) + 1))
  else (
  some 0)))
  else (
  ix ((f_X5_c x1) + 3) 3053 <|
  (f_X5_holds zs x1).bind fun r15 =>
  if r15 = 0 then (
  some 0)
  else (
  ix ((f_X5_c x1) + 1) 3053 <|
  if (zs ((f_X5_c x1) + 1).toNatClampNeg) ≤ (zs ((f_X5_c x1) + 3).toNatClampNeg) then (
  ix ((f_X5_c x1) + 1) 3053 <|
  some (((zs ((f_X5_c x1) + 3).toNatClampNeg) - (zs ((f_X5_c x1) + 1).toNatClampNeg)) + 1))
  else (
  some 0)))
def f_X5_worst_7 (zs : Nat → Int32) : Nat → Int32 → Int32 → Int32 → Option (Int32)
  | 0, _, _, _ => none
  | n + 1, x1, x2, x3 =>
    if (zs 3) ≤ x3 then (
    some x1)
    else (
    (f_X5_forgets zs x3).bind fun r2 =>
    if r2 ≤ x2 then (
    (f_X5_forgets zs x3).bind fun r6 =>
    if r6 ≤ x2 then (
    f_X5_worst_7 zs n x1 x2 (x3 + 1))
    else (
    (f_X5_forgets zs x3).bind fun r10 =>
    f_X5_worst_7 zs n x1 r10 (x3 + 1)))
    else (
    (f_X5_forgets zs x3).bind fun r13 =>
    if r13 ≤ x2 then (
    f_X5_worst_7 zs n x3 x2 (x3 + 1))
    else (
    (f_X5_forgets zs x3).bind fun r17 =>
    f_X5_worst_7 zs n x3 r17 (x3 + 1))))
def f_X5_worst (K : Nat) (zs : Nat → Int32) : Option (Int32) :=
  f_X5_worst_7 zs K (-4) 0 0
def f_X5_undo_22 (zb : Nat → Int32) (zu : Int32) : Nat → Int32 → (Nat → Int32) → Option (Int32 × (Nat → Int32) × Int32)
  | 0, _, _ => none
  | n + 1, x1, zs =>
    if 3053 ≤ x1 then (
    some (zu, zs, zu))
    else (
    ix ((3053 * zu) + x1) 12212 <|
    ix x1 3053 <|
    nb (upd zs (x1).toNatClampNeg (zb ((3053 * zu) + x1).toNatClampNeg)) fun y5 =>
    f_X5_undo_22 zb zu n (x1 + 1) y5)
def f_X5_undo (K : Nat) (zs : Nat → Int32) (zb : Nat → Int32) (zu : Int32) : Option (Int32 × (Nat → Int32) × Int32) :=
  if zu = 0 then (
  some ((-2), zs, zu))
  else (
  f_X5_undo_22 zb (zu - 1) K 0 zs)
def f_X5_type (zt : Nat → Int32) (zl : Int32) (x1 : Int32) : Option (Int32 × (Nat → Int32) × Int32) :=
  if (f_X5_in x1 32 126) = 0 then (
  some ((-1), zt, zl))
  else (
  if zl = 80 then (
  some ((-3), zt, zl))
  else (
  ix zl 80 <|
  nb (upd zt (zl).toNatClampNeg x1) fun y6 =>
  some ((zl + 1), y6, (zl + 1))))
def f_X5_clearText (zl : Int32) : Option (Int32 × Int32) :=
  some (zl, 0)
def f_X5_has (zt : Nat → Int32) (zl : Int32) (zp : Int32) (x1 : Int32) (x2 : Int32) : Option (Int32) :=
  if x2 = 0 then (
  some 1)
  else (
  if zl ≤ (zp + x1) then (
  some 0)
  else (
  ix (zp + x1) 80 <|
  if (zt (zp + x1).toNatClampNeg) = x2 then (
  some 1)
  else (
  some 0)))
def f_X5_one (x0 : Int32) : Int32 :=
  if x0 = 0 then (
  0)
  else (
  1)
def f_X5_sees (zt : Nat → Int32) (zl : Int32) (zp : Int32) (x1 : Int32) (x2 : Int32) (x3 : Int32) (x4 : Int32) (x5 : Int32) (x6 : Int32) (x7 : Int32) : Option (Int32 × Int32) :=
  (f_X5_has zt zl zp 0 x1).bind fun r1 =>
  if r1 = 0 then (
  some (0, (zp + 0)))
  else (
  (f_X5_has zt zl zp 1 x2).bind fun r5 =>
  if r5 = 0 then (
  some (0, (zp + 0)))
  else (
  (f_X5_has zt zl zp 2 x3).bind fun r9 =>
  if r9 = 0 then (
  some (0, (zp + 0)))
  else (
  (f_X5_has zt zl zp 3 x4).bind fun r13 =>
  if r13 = 0 then (
  some (0, (zp + 0)))
  else (
  (f_X5_has zt zl zp 4 x5).bind fun r17 =>
  if r17 = 0 then (
  some (0, (zp + 0)))
  else (
  (f_X5_has zt zl zp 5 x6).bind fun r21 =>
  if r21 = 0 then (
  some (0, (zp + 0)))
  else (
  (f_X5_has zt zl zp 6 x7).bind fun r25 =>
  if r25 = 0 then (
  some (0, (zp + 0)))
  else (
  some (1, (zp + (((((((f_X5_one x1) + (f_X5_one x2)) + (f_X5_one x3)) + (f_X5_one x4)) + (f_X5_one x5)) + (f_X5_one x6)) + (f_X5_one x7)))))))))))
def f_X5_number_4 (zt : Nat → Int32) (zl : Int32) : Nat → Int32 → Int32 → Int32 → Option (Int32 × Int32)
  | 0, _, _, _ => none
  | n + 1, x1, x2, zp =>
    if 3 ≤ x2 then (
    some (x1, zp))
    else (
    if zl ≤ zp then (
    some (x1, zp))
    else (
    ix zp 80 <|
    if (f_X5_in (zt (zp).toNatClampNeg) 48 57) = 0 then (
    some (x1, zp))
    else (
    if 0 ≤ x1 then (
    ix zp 80 <|
    f_X5_number_4 zt zl n (((10 * x1) + (zt (zp).toNatClampNeg)) - 48) (x2 + 1) (zp + 1))
    else (
    ix zp 80 <|
    f_X5_number_4 zt zl n ((0 + (zt (zp).toNatClampNeg)) - 48) (x2 + 1) (zp + 1)))))
def f_X5_number (K : Nat) (zt : Nat → Int32) (zl : Int32) (zp : Int32) : Option (Int32 × Int32) :=
  f_X5_number_4 zt zl K (-1) 0 zp
def f_X5_wordAt (zt : Nat → Int32) (zl : Int32) (zp : Int32) : Option (Int32 × Int32) :=
  (f_X5_sees zt zl zp 99 108 101 114 107 32 0).bind fun ⟨r1, y2⟩ =>
  if r1 = 0 then (
  (f_X5_sees zt zl y2 97 115 107 32 0 0 0).bind fun ⟨r6, y7⟩ =>
  if r6 = 0 then (
  (f_X5_sees zt zl y7 102 111 114 103 101 116 32).bind fun ⟨r11, y12⟩ =>
  if r11 = 0 then (
  (f_X5_sees zt zl y12 98 97 99 107 32 0 0).bind fun ⟨r16, y17⟩ =>
  if r16 = 0 then (
  (f_X5_sees zt zl y17 118 111 105 100 32 0 0).bind fun ⟨r21, y22⟩ =>
  if r21 = 0 then (
  (f_X5_sees zt zl y22 99 108 111 115 101 0 0).bind fun ⟨r26, y27⟩ =>
  if r26 = 0 then (
  some ((-1), y27))
  else (
  some (5, y27)))
  else (
  some (4, y22)))
  else (
  some (3, y17)))
  else (
  some (2, y12)))
  else (
  some (1, y7)))
  else (
  some (0, y2))
def f_X5_kindAt (zt : Nat → Int32) (zl : Int32) (zp : Int32) : Option (Int32 × Int32) :=
  (f_X5_sees zt zl zp 99 97 114 101 102 117 108).bind fun ⟨r1, y2⟩ =>
  if r1 = 0 then (
  (f_X5_sees zt zl y2 108 97 122 121 0 0 0).bind fun ⟨r6, y7⟩ =>
  if r6 = 0 then (
  (f_X5_sees zt zl y7 100 114 101 97 109 121 0).bind fun ⟨r11, y12⟩ =>
  if r11 = 0 then (
  some ((-1), y12))
  else (
  some (2, y12)))
  else (
  some (1, y7)))
  else (
  some (0, y2))
def f_X5_isForm (K : Nat) (zt : Nat → Int32) (zl : Int32) (zp : Int32) : Option (Int32 × Int32 × Int32 × Int32 × Int32) :=
  (f_X5_wordAt zt zl zp).bind fun ⟨r1, y2⟩ =>
  if 0 ≤ r1 then (
  if r1 = 0 then (
  (f_X5_kindAt zt zl y2).bind fun ⟨r64, y65⟩ =>
  if r64 < 0 then (
  if r64 < 0 then (
  some (0, y65, r1, r64, 1))
  else (
  (f_X5_sees zt zl y65 59 0 0 0 0 0 0).bind fun ⟨r70, y71⟩ =>
  if r70 = 0 then (
  some (0, y71, r1, r64, 1))
  else (
  some (1, y71, r1, r64, 1))))
  else (
  if r1 = 1 then (
  (f_X5_sees zt zl y65 32 0 0 0 0 0 0).bind fun ⟨r82, y83⟩ =>
  if r82 = 0 then (
  if r64 < 0 then (
  some (0, y83, r1, r64, (-1)))
  else (
  some (0, y83, r1, r64, (-1))))
  else (
  (f_X5_number K zt zl y83).bind fun ⟨r88, y89⟩ =>
  if r64 < 0 then (
  some (0, y89, r1, r64, r88))
  else (
  if r88 < 0 then (
  some (0, y89, r1, r64, r88))
  else (
  (f_X5_sees zt zl y89 59 0 0 0 0 0 0).bind fun ⟨r94, y95⟩ =>
  if r94 = 0 then (
  some (0, y95, r1, r64, r88))
  else (
  some (1, y95, r1, r64, r88))))))
  else (
  if r64 < 0 then (
  some (0, y65, r1, r64, 1))
  else (
  (f_X5_sees zt zl y65 59 0 0 0 0 0 0).bind fun ⟨r77, y78⟩ =>
  if r77 = 0 then (
  some (0, y78, r1, r64, 1))
  else (
  some (1, y78, r1, r64, 1))))))
  else (
  if 5 ≤ r1 then (
  if r1 = 1 then (
  (f_X5_sees zt zl y2 32 0 0 0 0 0 0).bind fun ⟨r14, y15⟩ =>
  if r14 = 0 then (
  some (0, y15, r1, 0, (-1)))
  else (
  (f_X5_number K zt zl y15).bind fun ⟨r19, y20⟩ =>
  if r19 < 0 then (
  some (0, y20, r1, 0, r19))
  else (
  (f_X5_sees zt zl y20 59 0 0 0 0 0 0).bind fun ⟨r24, y25⟩ =>
  if r24 = 0 then (
  some (0, y25, r1, 0, r19))
  else (
  some (1, y25, r1, 0, r19)))))
  else (
  (f_X5_sees zt zl y2 59 0 0 0 0 0 0).bind fun ⟨r9, y10⟩ =>
  if r9 = 0 then (
  some (0, y10, r1, 0, 1))
  else (
  some (1, y10, r1, 0, 1))))
  else (
  (f_X5_number K zt zl y2).bind fun ⟨r29, y30⟩ =>
  if r29 < 0 then (
  if r29 < 0 then (
  some (0, y30, r1, r29, 1))
  else (
  (f_X5_sees zt zl y30 59 0 0 0 0 0 0).bind fun ⟨r35, y36⟩ =>
  if r35 = 0 then (
  some (0, y36, r1, r29, 1))
  else (
  some (1, y36, r1, r29, 1))))
  else (
  if r1 = 1 then (
  (f_X5_sees zt zl y30 32 0 0 0 0 0 0).bind fun ⟨r47, y48⟩ =>
  if r47 = 0 then (
  if r29 < 0 then (
  some (0, y48, r1, r29, (-1)))
  else (
  some (0, y48, r1, r29, (-1))))
  else (
  (f_X5_number K zt zl y48).bind fun ⟨r53, y54⟩ =>
  if r29 < 0 then (
  some (0, y54, r1, r29, r53))
  else (
  if r53 < 0 then (
  some (0, y54, r1, r29, r53))
  else (
  (f_X5_sees zt zl y54 59 0 0 0 0 0 0).bind fun ⟨r59, y60⟩ =>
  if r59 = 0 then (
  some (0, y60, r1, r29, r53))
  else (
  some (1, y60, r1, r29, r53))))))
  else (
  if r29 < 0 then (
  some (0, y30, r1, r29, 1))
  else (
  (f_X5_sees zt zl y30 59 0 0 0 0 0 0).bind fun ⟨r42, y43⟩ =>
  if r42 = 0 then (
  some (0, y43, r1, r29, 1))
  else (
  some (1, y43, r1, r29, 1))))))))
  else (
  some (0, y2, r1, 0, 1))
def f_X5_isRange (zs : Nat → Int32) (zw : Int32) (zf : Int32) (zg : Int32) : Int32 :=
  if zw = 1 then (
  if (f_X5_isClerk zs zf) = 0 then (
  0)
  else (
  if (f_X5_in zg 1 50) = 0 then (
  0)
  else (
  1)))
  else (
  if zw = 2 then (
  (f_X5_isClerk zs zf))
  else (
  if zw = 3 then (
  (f_X5_isClerk zs zf))
  else (
  if zw = 4 then (
  (f_X5_isNumber zf))
  else (
  1))))
def f_X5_isPossible (K : Nat) (zs : Nat → Int32) (zw : Int32) (zf : Int32) (zg : Int32) : Option (Int32) :=
  if zw = 0 then (
  if 6 ≤ (zs 3) then (
  some 0)
  else (
  some 1))
  else (
  if zw = 1 then (
  (f_X5_canAsk K zs zf zg).bind fun r4 =>
  some r4)
  else (
  if zw = 2 then (
  (f_X5_holds zs zf).bind fun r8 =>
  if r8 ≤ 0 then (
  some 0)
  else (
  some 1))
  else (
  if zw = 3 then (
  (f_X5_holds zs zf).bind fun r13 =>
  if r13 ≤ 0 then (
  some 0)
  else (
  some 1))
  else (
  if zw = 4 then (
  ix ((f_X5_n zf) + 0) 3053 <|
  if (zs ((f_X5_n zf) + 0).toNatClampNeg) = 2 then (
  some 1)
  else (
  some 0))
  else (
  some 1)))))
def f_X5_goCommand (K : Nat) (zs : Nat → Int32) (zw : Int32) (zf : Int32) (zg : Int32) : Option ((Nat → Int32)) :=
  if zw = 0 then (
  (f_X5_goClerk zs zf).bind fun ⟨r2, y3⟩ =>
  some y3)
  else (
  if zw = 1 then (
  (f_X5_goAsk K zs zf zg).bind fun ⟨r7, y8⟩ =>
  some y8)
  else (
  if zw = 2 then (
  (f_X5_goForget K zs zf).bind fun ⟨r12, y13⟩ =>
  some y13)
  else (
  if zw = 3 then (
  (f_X5_goBack K zs zf).bind fun ⟨r17, y18⟩ =>
  some y18)
  else (
  if zw = 4 then (
  (f_X5_makeHole zs zf 2).bind fun y23 =>
  some y23)
  else (
  (f_X5_goClose K zs).bind fun ⟨r26, y27⟩ =>
  some y27)))))
def f_X5_run_10 (K : Nat) (zt : Nat → Int32) (zl : Int32) : Nat → (Nat → Int32) → Int32 → Int32 → Int32 → Int32 → Int32 → Option (Int32 × (Nat → Int32) × Int32 × Int32 × Int32 × Int32 × Int32)
  | 0, _, _, _, _, _, _ => none
  | n + 1, zs, zp, zw, zf, zg, zc =>
    if zl ≤ zp then (
    some ((-1), zs, zp, zw, zf, zg, zc))
    else (
    (f_X5_isForm K zt zl zp).bind fun ⟨r2, y3, y4, y5, y6⟩ =>
    if r2 = 0 then (
    some (((4 * zp) + 1), zs, y3, y4, y5, y6, zc))
    else (
    if (f_X5_isRange zs y4 y5 y6) = 0 then (
    some (((4 * zp) + 2), zs, y3, y4, y5, y6, zc))
    else (
    (f_X5_isPossible K zs y4 y5 y6).bind fun r13 =>
    if r13 = 0 then (
    some (((4 * zp) + 3), zs, y3, y4, y5, y6, zc))
    else (
    (f_X5_goCommand K zs y4 y5 y6).bind fun y18 =>
    f_X5_run_10 K zt zl n y18 y3 y4 y5 y6 (zc + 1)))))
def f_X5_run (K : Nat) (zs : Nat → Int32) (zt : Nat → Int32) (zl : Int32) (zw : Int32) (zf : Int32) (zg : Int32) : Option (Int32 × (Nat → Int32) × Int32 × Int32 × Int32 × Int32 × Int32) :=
  f_X5_run_10 K zt zl K zs 0 zw zf zg 0
def f_X5_fault (K : Nat) (zs : Nat → Int32) (za : Nat → Int32) (zt : Nat → Int32) (zl : Int32) (zp : Int32) (zw : Int32) (zf : Int32) (zg : Int32) (zc : Int32) (x1 : Int32) : Option (Int32 × (Nat → Int32) × (Nat → Int32) × Int32 × Int32 × Int32 × Int32 × Int32) :=
  if (f_X5_in x1 0 1) = 0 then (
  some ((-1), zs, za, zp, zw, zf, zg, zc))
  else (
  (f_X5_layAside K zs za).bind fun y5 =>
  (f_X5_run K zs zt zl zw zf zg).bind fun ⟨r8, y9, y10, y11, y12, y13, y14⟩ =>
  (f_X5_layBack K y9 y5).bind fun y18 =>
  if 0 ≤ r8 then (
  if x1 = 0 then (
  some ((r8 / 4), y18, y5, y10, y11, y12, y13, y14))
  else (
  some ((r8 - r8 / 4 * 4), y18, y5, y10, y11, y12, y13, y14)))
  else (
  some ((-4), y18, y5, y10, y11, y12, y13, y14)))
def f_X5_play (K : Nat) (zs : Nat → Int32) (zb : Nat → Int32) (za : Nat → Int32) (zt : Nat → Int32) (zl : Int32) (zu : Int32) (zw : Int32) (zf : Int32) (zg : Int32) : Option (Int32 × (Nat → Int32) × (Nat → Int32) × (Nat → Int32) × Int32 × Int32 × Int32 × Int32 × Int32 × Int32) :=
  (f_X5_layAside K zs za).bind fun y2 =>
  (f_X5_run K zs zt zl zw zf zg).bind fun ⟨r5, y6, y7, y8, y9, y10, y11⟩ =>
  (f_X5_layBack K y6 y2).bind fun y15 =>
  if r5 < 0 then (
  (f_X5_record K y15 zb zu).bind fun ⟨y20, y21⟩ =>
  (f_X5_run K y15 zt zl y8 y9 y10).bind fun ⟨r24, y25, y26, y27, y28, y29, y30⟩ =>
  some (y30, y25, y20, y2, y21, y26, y27, y28, y29, y30))
  else (
  some ((-2), y15, zb, y2, zu, y7, y8, y9, y10, y11))
