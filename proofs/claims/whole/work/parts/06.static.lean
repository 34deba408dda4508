abbrev wP (ad : Nat → Nat) (ca : Nat → ClassId) (P : Nat → Nat → Nat) : va_W := [(ad 1, .inr (0, [.int (nI (P 0 0)), .int (nI (P 0 1)), .int (nI (P 0 2)), .int (nI (P 0 3)), .int (nI (P 0 4)), .int (nI (P 0 5)), .ref (ad 3), .ref (ad 4), .ref (ad 5), .ref (ad 6), .ref (ad 7), .ref (ad 8)])), (ad 3, .inl (ca 0, 6, .inl (fun k => nI (P 1 k)))), (ad 4, .inl (ca 1, 6, .inl (fun k => nI (P 2 k)))), (ad 5, .inl (ca 2, 28, .inl (fun k => nI (P 3 k)))), (ad 6, .inl (ca 3, 28, .inl (fun k => nI (P 4 k)))), (ad 7, .inl (ca 4, 168, .inl (fun k => nI (P 5 k)))), (ad 8, .inl (ca 5, 168, .inl (fun k => nI (P 6 k))))]
abbrev wPS (ad : Nat → Nat) (ca : Nat → ClassId) (P : Nat → Nat → Nat) (a : Nat) (cS : ClassId) (sh : Nat → Nat) : va_W := wP ad ca P ++ [(a, .inl (cS, 42, .inl (fun k => nI (sh k))))]
abbrev tP (ca : Nat → ClassId) : List (ClassId × FieldType) := [(ca 0, .int), (ca 1, .int), (ca 2, .int), (ca 3, .int), (ca 4, .boolean), (ca 5, .int)]
abbrev tPS (ca : Nat → ClassId) (cS : ClassId) : List (ClassId × FieldType) := tP ca ++ [(cS, .int)]
theorem NX.nw {s : State} {w : Cond} (h : NX s) (hw : w ∈ tables_1) (hn : isNest w = true) : va_Nw w s := h w (List.mem_filter.mpr ⟨hw, hn⟩)
theorem nr_bool {x : Nat} (h : x < 2) : narrow .boolean (.int (nI x)) = .int (nI x) := by rcases (show x = 0 ∨ x = 1 by omega) with rfl | rfl <;> rfl
theorem nr_boolF {x : Nat} (h : x < 2) : fits .boolean (.int (nI x)) = true := by rcases (show x = 0 ∨ x = 1 by omega) with rfl | rfl <;> rfl
theorem hours_eq {a b : Nat} (ha : a ≤ 3) (hb1 : 1 ≤ b) (hb3 : b ≤ 3) : nI 16 + nI 8 * (nI b - nI a) = nI (16 + 8 * b - 8 * a) := by rcases (show a = 0 ∨ a = 1 ∨ a = 2 ∨ a = 3 by omega) with rfl | rfl | rfl | rfl <;> rcases (show b = 1 ∨ b = 2 ∨ b = 3 by omega) with rfl | rfl | rfl <;> decide
theorem hd_R_init : y_R_init.cls ≠ "java/lang/invoke/MethodHandle" ∧ y_R_init.cls ≠ "java/lang/invoke/VarHandle" ∧ (parseMethodDescriptor y_R_init.desc).map (fun d => d.parameters.length) = some 0 := by decide +kernel
theorem hd_P_init : y_P_init.cls ≠ "java/lang/invoke/MethodHandle" ∧ y_P_init.cls ≠ "java/lang/invoke/VarHandle" ∧ (parseMethodDescriptor y_P_init.desc).map (fun d => d.parameters.length) = some 0 := by decide +kernel
theorem hd_S_init : y_S_init.cls ≠ "java/lang/invoke/MethodHandle" ∧ y_S_init.cls ≠ "java/lang/invoke/VarHandle" ∧ (parseMethodDescriptor y_S_init.desc).map (fun d => d.parameters.length) = some 1 := by decide +kernel
theorem hd_R_wrong : y_R_wrong.cls ≠ "java/lang/invoke/MethodHandle" ∧ y_R_wrong.cls ≠ "java/lang/invoke/VarHandle" ∧ (parseMethodDescriptor y_R_wrong.desc).map (fun d => d.parameters.length) = some 0 := by decide +kernel
theorem hd_P_firstFault : y_P_firstFault.cls ≠ "java/lang/invoke/MethodHandle" ∧ y_P_firstFault.cls ≠ "java/lang/invoke/VarHandle" ∧ (parseMethodDescriptor y_P_firstFault.desc).map (fun d => d.parameters.length) = some 1 := by decide +kernel
theorem hd_P_firstNeedFault : y_P_firstNeedFault.cls ≠ "java/lang/invoke/MethodHandle" ∧ y_P_firstNeedFault.cls ≠ "java/lang/invoke/VarHandle" ∧ (parseMethodDescriptor y_P_firstNeedFault.desc).map (fun d => d.parameters.length) = some 1 := by decide +kernel
theorem hd_P_firstNeedUnmet : y_P_firstNeedUnmet.cls ≠ "java/lang/invoke/MethodHandle" ∧ y_P_firstNeedUnmet.cls ≠ "java/lang/invoke/VarHandle" ∧ (parseMethodDescriptor y_P_firstNeedUnmet.desc).map (fun d => d.parameters.length) = some 2 := by decide +kernel
theorem hd_P_meetsNeed : y_P_meetsNeed.cls ≠ "java/lang/invoke/MethodHandle" ∧ y_P_meetsNeed.cls ≠ "java/lang/invoke/VarHandle" ∧ (parseMethodDescriptor y_P_meetsNeed.desc).map (fun d => d.parameters.length) = some 3 := by decide +kernel
theorem hd_R_cell : y_R_cell.cls ≠ "java/lang/invoke/MethodHandle" ∧ y_R_cell.cls ≠ "java/lang/invoke/VarHandle" ∧ (parseMethodDescriptor y_R_cell.desc).map (fun d => d.parameters.length) = some 2 := by decide +kernel
theorem hd_R_slot : y_R_slot.cls ≠ "java/lang/invoke/MethodHandle" ∧ y_R_slot.cls ≠ "java/lang/invoke/VarHandle" ∧ (parseMethodDescriptor y_R_slot.desc).map (fun d => d.parameters.length) = some 2 := by decide +kernel
theorem hd_P_faultNumber : y_P_faultNumber.cls ≠ "java/lang/invoke/MethodHandle" ∧ y_P_faultNumber.cls ≠ "java/lang/invoke/VarHandle" ∧ (parseMethodDescriptor y_P_faultNumber.desc).map (fun d => d.parameters.length) = some 3 := by decide +kernel
theorem hd_P_firstRestFault : y_P_firstRestFault.cls ≠ "java/lang/invoke/MethodHandle" ∧ y_P_firstRestFault.cls ≠ "java/lang/invoke/VarHandle" ∧ (parseMethodDescriptor y_P_firstRestFault.desc).map (fun d => d.parameters.length) = some 1 := by decide +kernel
theorem hd_P_breaksRest : y_P_breaksRest.cls ≠ "java/lang/invoke/MethodHandle" ∧ y_P_breaksRest.cls ≠ "java/lang/invoke/VarHandle" ∧ (parseMethodDescriptor y_P_breaksRest.desc).map (fun d => d.parameters.length) = some 2 := by decide +kernel
theorem hd_P_hoursBetween : y_P_hoursBetween.cls ≠ "java/lang/invoke/MethodHandle" ∧ y_P_hoursBetween.cls ≠ "java/lang/invoke/VarHandle" ∧ (parseMethodDescriptor y_P_hoursBetween.desc).map (fun d => d.parameters.length) = some 2 := by decide +kernel
theorem hd_P_firstMostFault : y_P_firstMostFault.cls ≠ "java/lang/invoke/MethodHandle" ∧ y_P_firstMostFault.cls ≠ "java/lang/invoke/VarHandle" ∧ (parseMethodDescriptor y_P_firstMostFault.desc).map (fun d => d.parameters.length) = some 1 := by decide +kernel
theorem hd_P_firstNightsFault : y_P_firstNightsFault.cls ≠ "java/lang/invoke/MethodHandle" ∧ y_P_firstNightsFault.cls ≠ "java/lang/invoke/VarHandle" ∧ (parseMethodDescriptor y_P_firstNightsFault.desc).map (fun d => d.parameters.length) = some 1 := by decide +kernel
theorem hd_P_firstBarFault : y_P_firstBarFault.cls ≠ "java/lang/invoke/MethodHandle" ∧ y_P_firstBarFault.cls ≠ "java/lang/invoke/VarHandle" ∧ (parseMethodDescriptor y_P_firstBarFault.desc).map (fun d => d.parameters.length) = some 1 := by decide +kernel
theorem hd_R_choice : y_R_choice.cls ≠ "java/lang/invoke/MethodHandle" ∧ y_R_choice.cls ≠ "java/lang/invoke/VarHandle" ∧ (parseMethodDescriptor y_R_choice.desc).map (fun d => d.parameters.length) = some 3 := by decide +kernel
theorem hd_R_unmet : y_R_unmet.cls ≠ "java/lang/invoke/MethodHandle" ∧ y_R_unmet.cls ≠ "java/lang/invoke/VarHandle" ∧ (parseMethodDescriptor y_R_unmet.desc).map (fun d => d.parameters.length) = some 0 := by decide +kernel
theorem hd_P_unmetSum : y_P_unmetSum.cls ≠ "java/lang/invoke/MethodHandle" ∧ y_P_unmetSum.cls ≠ "java/lang/invoke/VarHandle" ∧ (parseMethodDescriptor y_P_unmetSum.desc).map (fun d => d.parameters.length) = some 1 := by decide +kernel
theorem hd_R_cost : y_R_cost.cls ≠ "java/lang/invoke/MethodHandle" ∧ y_R_cost.cls ≠ "java/lang/invoke/VarHandle" ∧ (parseMethodDescriptor y_R_cost.desc).map (fun d => d.parameters.length) = some 0 := by decide +kernel
theorem hd_P_costOfAll : y_P_costOfAll.cls ≠ "java/lang/invoke/MethodHandle" ∧ y_P_costOfAll.cls ≠ "java/lang/invoke/VarHandle" ∧ (parseMethodDescriptor y_P_costOfAll.desc).map (fun d => d.parameters.length) = some 1 := by decide +kernel
theorem hd_P_costOfOne : y_P_costOfOne.cls ≠ "java/lang/invoke/MethodHandle" ∧ y_P_costOfOne.cls ≠ "java/lang/invoke/VarHandle" ∧ (parseMethodDescriptor y_P_costOfOne.desc).map (fun d => d.parameters.length) = some 2 := by decide +kernel
theorem hd_R_publish : y_R_publish.cls ≠ "java/lang/invoke/MethodHandle" ∧ y_R_publish.cls ≠ "java/lang/invoke/VarHandle" ∧ (parseMethodDescriptor y_R_publish.desc).map (fun d => d.parameters.length) = some 0 := by decide +kernel
theorem hd_L_days : y_L_days.cls ≠ "java/lang/invoke/MethodHandle" ∧ y_L_days.cls ≠ "java/lang/invoke/VarHandle" ∧ (parseMethodDescriptor y_L_days.desc).map (fun d => d.parameters.length) = some 2 := by decide +kernel
theorem hd_R_days : y_R_days.cls ≠ "java/lang/invoke/MethodHandle" ∧ y_R_days.cls ≠ "java/lang/invoke/VarHandle" ∧ (parseMethodDescriptor y_R_days.desc).map (fun d => d.parameters.length) = some 1 := by decide +kernel
theorem hd_R_refuseOutside : y_R_refuseOutside.cls ≠ "java/lang/invoke/MethodHandle" ∧ y_R_refuseOutside.cls ≠ "java/lang/invoke/VarHandle" ∧ (parseMethodDescriptor y_R_refuseOutside.desc).map (fun d => d.parameters.length) = some 3 := by decide +kernel
theorem hd_P_startDays : y_P_startDays.cls ≠ "java/lang/invoke/MethodHandle" ∧ y_P_startDays.cls ≠ "java/lang/invoke/VarHandle" ∧ (parseMethodDescriptor y_P_startDays.desc).map (fun d => d.parameters.length) = some 1 := by decide +kernel
theorem hd_R_clearRow : y_R_clearRow.cls ≠ "java/lang/invoke/MethodHandle" ∧ y_R_clearRow.cls ≠ "java/lang/invoke/VarHandle" ∧ (parseMethodDescriptor y_R_clearRow.desc).map (fun d => d.parameters.length) = some 1 := by decide +kernel
theorem hd_L_person : y_L_person.cls ≠ "java/lang/invoke/MethodHandle" ∧ y_L_person.cls ≠ "java/lang/invoke/VarHandle" ∧ (parseMethodDescriptor y_L_person.desc).map (fun d => d.parameters.length) = some 4 := by decide +kernel
theorem hd_R_person : y_R_person.cls ≠ "java/lang/invoke/MethodHandle" ∧ y_R_person.cls ≠ "java/lang/invoke/VarHandle" ∧ (parseMethodDescriptor y_R_person.desc).map (fun d => d.parameters.length) = some 2 := by decide +kernel
theorem hd_R_refuseFull : y_R_refuseFull.cls ≠ "java/lang/invoke/MethodHandle" ∧ y_R_refuseFull.cls ≠ "java/lang/invoke/VarHandle" ∧ (parseMethodDescriptor y_R_refuseFull.desc).map (fun d => d.parameters.length) = some 2 := by decide +kernel
theorem hd_P_addPerson : y_P_addPerson.cls ≠ "java/lang/invoke/MethodHandle" ∧ y_P_addPerson.cls ≠ "java/lang/invoke/VarHandle" ∧ (parseMethodDescriptor y_P_addPerson.desc).map (fun d => d.parameters.length) = some 2 := by decide +kernel
theorem hd_L_need : y_L_need.cls ≠ "java/lang/invoke/MethodHandle" ∧ y_L_need.cls ≠ "java/lang/invoke/VarHandle" ∧ (parseMethodDescriptor y_L_need.desc).map (fun d => d.parameters.length) = some 5 := by decide +kernel
theorem hd_R_need : y_R_need.cls ≠ "java/lang/invoke/MethodHandle" ∧ y_R_need.cls ≠ "java/lang/invoke/VarHandle" ∧ (parseMethodDescriptor y_R_need.desc).map (fun d => d.parameters.length) = some 4 := by decide +kernel
theorem hd_R_refuseUnknownDay : y_R_refuseUnknownDay.cls ≠ "java/lang/invoke/MethodHandle" ∧ y_R_refuseUnknownDay.cls ≠ "java/lang/invoke/VarHandle" ∧ (parseMethodDescriptor y_R_refuseUnknownDay.desc).map (fun d => d.parameters.length) = some 1 := by decide +kernel
theorem hd_R_refuseUnknown : y_R_refuseUnknown.cls ≠ "java/lang/invoke/MethodHandle" ∧ y_R_refuseUnknown.cls ≠ "java/lang/invoke/VarHandle" ∧ (parseMethodDescriptor y_R_refuseUnknown.desc).map (fun d => d.parameters.length) = some 3 := by decide +kernel
theorem hd_P_putNeed : y_P_putNeed.cls ≠ "java/lang/invoke/MethodHandle" ∧ y_P_putNeed.cls ≠ "java/lang/invoke/VarHandle" ∧ (parseMethodDescriptor y_P_putNeed.desc).map (fun d => d.parameters.length) = some 4 := by decide +kernel
theorem hd_L_rules : y_L_rules.cls ≠ "java/lang/invoke/MethodHandle" ∧ y_L_rules.cls ≠ "java/lang/invoke/VarHandle" ∧ (parseMethodDescriptor y_L_rules.desc).map (fun d => d.parameters.length) = some 4 := by decide +kernel
theorem hd_R_rules : y_R_rules.cls ≠ "java/lang/invoke/MethodHandle" ∧ y_R_rules.cls ≠ "java/lang/invoke/VarHandle" ∧ (parseMethodDescriptor y_R_rules.desc).map (fun d => d.parameters.length) = some 3 := by decide +kernel
theorem hd_P_putRules : y_P_putRules.cls ≠ "java/lang/invoke/MethodHandle" ∧ y_P_putRules.cls ≠ "java/lang/invoke/VarHandle" ∧ (parseMethodDescriptor y_P_putRules.desc).map (fun d => d.parameters.length) = some 3 := by decide +kernel
theorem hd_L_bar : y_L_bar.cls ≠ "java/lang/invoke/MethodHandle" ∧ y_L_bar.cls ≠ "java/lang/invoke/VarHandle" ∧ (parseMethodDescriptor y_L_bar.desc).map (fun d => d.parameters.length) = some 5 := by decide +kernel
theorem hd_R_bar : y_R_bar.cls ≠ "java/lang/invoke/MethodHandle" ∧ y_R_bar.cls ≠ "java/lang/invoke/VarHandle" ∧ (parseMethodDescriptor y_R_bar.desc).map (fun d => d.parameters.length) = some 4 := by decide +kernel
theorem hd_R_refuseUnknownPerson : y_R_refuseUnknownPerson.cls ≠ "java/lang/invoke/MethodHandle" ∧ y_R_refuseUnknownPerson.cls ≠ "java/lang/invoke/VarHandle" ∧ (parseMethodDescriptor y_R_refuseUnknownPerson.desc).map (fun d => d.parameters.length) = some 1 := by decide +kernel
theorem hd_L_wish : y_L_wish.cls ≠ "java/lang/invoke/MethodHandle" ∧ y_L_wish.cls ≠ "java/lang/invoke/VarHandle" ∧ (parseMethodDescriptor y_L_wish.desc).map (fun d => d.parameters.length) = some 7 := by decide +kernel
theorem hd_R_wish : y_R_wish.cls ≠ "java/lang/invoke/MethodHandle" ∧ y_R_wish.cls ≠ "java/lang/invoke/VarHandle" ∧ (parseMethodDescriptor y_R_wish.desc).map (fun d => d.parameters.length) = some 5 := by decide +kernel
theorem hd_R_refuseFrozen : y_R_refuseFrozen.cls ≠ "java/lang/invoke/MethodHandle" ∧ y_R_refuseFrozen.cls ≠ "java/lang/invoke/VarHandle" ∧ (parseMethodDescriptor y_R_refuseFrozen.desc).map (fun d => d.parameters.length) = some 1 := by decide +kernel
theorem hd_P_addWish : y_P_addWish.cls ≠ "java/lang/invoke/MethodHandle" ∧ y_P_addWish.cls ≠ "java/lang/invoke/VarHandle" ∧ (parseMethodDescriptor y_P_addWish.desc).map (fun d => d.parameters.length) = some 4 := by decide +kernel
theorem hd_L_freeze : y_L_freeze.cls ≠ "java/lang/invoke/MethodHandle" ∧ y_L_freeze.cls ≠ "java/lang/invoke/VarHandle" ∧ (parseMethodDescriptor y_L_freeze.desc).map (fun d => d.parameters.length) = some 2 := by decide +kernel
theorem hd_R_freeze : y_R_freeze.cls ≠ "java/lang/invoke/MethodHandle" ∧ y_R_freeze.cls ≠ "java/lang/invoke/VarHandle" ∧ (parseMethodDescriptor y_R_freeze.desc).map (fun d => d.parameters.length) = some 1 := by decide +kernel
theorem hd_L_set : y_L_set.cls ≠ "java/lang/invoke/MethodHandle" ∧ y_L_set.cls ≠ "java/lang/invoke/VarHandle" ∧ (parseMethodDescriptor y_L_set.desc).map (fun d => d.parameters.length) = some 4 := by decide +kernel
theorem hd_R_set : y_R_set.cls ≠ "java/lang/invoke/MethodHandle" ∧ y_R_set.cls ≠ "java/lang/invoke/VarHandle" ∧ (parseMethodDescriptor y_R_set.desc).map (fun d => d.parameters.length) = some 3 := by decide +kernel
theorem hd_L_solve : y_L_solve.cls ≠ "java/lang/invoke/MethodHandle" ∧ y_L_solve.cls ≠ "java/lang/invoke/VarHandle" ∧ (parseMethodDescriptor y_L_solve.desc).map (fun d => d.parameters.length) = some 3 := by decide +kernel
theorem hd_R_solve : y_R_solve.cls ≠ "java/lang/invoke/MethodHandle" ∧ y_R_solve.cls ≠ "java/lang/invoke/VarHandle" ∧ (parseMethodDescriptor y_R_solve.desc).map (fun d => d.parameters.length) = some 1 := by decide +kernel
theorem hd_S_run : y_S_run.cls ≠ "java/lang/invoke/MethodHandle" ∧ y_S_run.cls ≠ "java/lang/invoke/VarHandle" ∧ (parseMethodDescriptor y_S_run.desc).map (fun d => d.parameters.length) = some 3 := by decide +kernel
theorem hd_S_takeOnlyRoster : y_S_takeOnlyRoster.cls ≠ "java/lang/invoke/MethodHandle" ∧ y_S_takeOnlyRoster.cls ≠ "java/lang/invoke/VarHandle" ∧ (parseMethodDescriptor y_S_takeOnlyRoster.desc).map (fun d => d.parameters.length) = some 0 := by decide +kernel
theorem hd_S_keepTrial : y_S_keepTrial.cls ≠ "java/lang/invoke/MethodHandle" ∧ y_S_keepTrial.cls ≠ "java/lang/invoke/VarHandle" ∧ (parseMethodDescriptor y_S_keepTrial.desc).map (fun d => d.parameters.length) = some 1 := by decide +kernel
theorem hd_S_goThrough : y_S_goThrough.cls ≠ "java/lang/invoke/MethodHandle" ∧ y_S_goThrough.cls ≠ "java/lang/invoke/VarHandle" ∧ (parseMethodDescriptor y_S_goThrough.desc).map (fun d => d.parameters.length) = some 1 := by decide +kernel
theorem hd_S_open : y_S_open.cls ≠ "java/lang/invoke/MethodHandle" ∧ y_S_open.cls ≠ "java/lang/invoke/VarHandle" ∧ (parseMethodDescriptor y_S_open.desc).map (fun d => d.parameters.length) = some 3 := by decide +kernel
theorem hd_S_standsNext : y_S_standsNext.cls ≠ "java/lang/invoke/MethodHandle" ∧ y_S_standsNext.cls ≠ "java/lang/invoke/VarHandle" ∧ (parseMethodDescriptor y_S_standsNext.desc).map (fun d => d.parameters.length) = some 2 := by decide +kernel
theorem hd_S_keepsRules : y_S_keepsRules.cls ≠ "java/lang/invoke/MethodHandle" ∧ y_S_keepsRules.cls ≠ "java/lang/invoke/VarHandle" ∧ (parseMethodDescriptor y_S_keepsRules.desc).map (fun d => d.parameters.length) = some 3 := by decide +kernel
theorem hd_S_staysBelowBest : y_S_staysBelowBest.cls ≠ "java/lang/invoke/MethodHandle" ∧ y_S_staysBelowBest.cls ≠ "java/lang/invoke/VarHandle" ∧ (parseMethodDescriptor y_S_staysBelowBest.desc).map (fun d => d.parameters.length) = some 3 := by decide +kernel
theorem hd_S_unmetBefore : y_S_unmetBefore.cls ≠ "java/lang/invoke/MethodHandle" ∧ y_S_unmetBefore.cls ≠ "java/lang/invoke/VarHandle" ∧ (parseMethodDescriptor y_S_unmetBefore.desc).map (fun d => d.parameters.length) = some 2 := by decide +kernel
theorem hd_L_solved : y_L_solved.cls ≠ "java/lang/invoke/MethodHandle" ∧ y_L_solved.cls ≠ "java/lang/invoke/VarHandle" ∧ (parseMethodDescriptor y_L_solved.desc).map (fun d => d.parameters.length) = some 3 := by decide +kernel
theorem hd_R_solved : y_R_solved.cls ≠ "java/lang/invoke/MethodHandle" ∧ y_R_solved.cls ≠ "java/lang/invoke/VarHandle" ∧ (parseMethodDescriptor y_R_solved.desc).map (fun d => d.parameters.length) = some 1 := by decide +kernel
theorem hd_L_swap : y_L_swap.cls ≠ "java/lang/invoke/MethodHandle" ∧ y_L_swap.cls ≠ "java/lang/invoke/VarHandle" ∧ (parseMethodDescriptor y_L_swap.desc).map (fun d => d.parameters.length) = some 4 := by decide +kernel
theorem hd_R_swap : y_R_swap.cls ≠ "java/lang/invoke/MethodHandle" ∧ y_R_swap.cls ≠ "java/lang/invoke/VarHandle" ∧ (parseMethodDescriptor y_R_swap.desc).map (fun d => d.parameters.length) = some 3 := by decide +kernel
theorem hd_R_refuseSame : y_R_refuseSame.cls ≠ "java/lang/invoke/MethodHandle" ∧ y_R_refuseSame.cls ≠ "java/lang/invoke/VarHandle" ∧ (parseMethodDescriptor y_R_refuseSame.desc).map (fun d => d.parameters.length) = some 2 := by decide +kernel
theorem hd_R_exchange : y_R_exchange.cls ≠ "java/lang/invoke/MethodHandle" ∧ y_R_exchange.cls ≠ "java/lang/invoke/VarHandle" ∧ (parseMethodDescriptor y_R_exchange.desc).map (fun d => d.parameters.length) = some 2 := by decide +kernel
theorem hd_L_shift : y_L_shift.cls ≠ "java/lang/invoke/MethodHandle" ∧ y_L_shift.cls ≠ "java/lang/invoke/VarHandle" ∧ (parseMethodDescriptor y_L_shift.desc).map (fun d => d.parameters.length) = some 4 := by decide +kernel
theorem hd_R_shift : y_R_shift.cls ≠ "java/lang/invoke/MethodHandle" ∧ y_R_shift.cls ≠ "java/lang/invoke/VarHandle" ∧ (parseMethodDescriptor y_R_shift.desc).map (fun d => d.parameters.length) = some 2 := by decide +kernel
theorem hd_L_share : y_L_share.cls ≠ "java/lang/invoke/MethodHandle" ∧ y_L_share.cls ≠ "java/lang/invoke/VarHandle" ∧ (parseMethodDescriptor y_L_share.desc).map (fun d => d.parameters.length) = some 3 := by decide +kernel
theorem hd_R_share : y_R_share.cls ≠ "java/lang/invoke/MethodHandle" ∧ y_R_share.cls ≠ "java/lang/invoke/VarHandle" ∧ (parseMethodDescriptor y_R_share.desc).map (fun d => d.parameters.length) = some 1 := by decide +kernel
theorem hd_L_count : y_L_count.cls ≠ "java/lang/invoke/MethodHandle" ∧ y_L_count.cls ≠ "java/lang/invoke/VarHandle" ∧ (parseMethodDescriptor y_L_count.desc).map (fun d => d.parameters.length) = some 3 := by decide +kernel
theorem hd_R_count : y_R_count.cls ≠ "java/lang/invoke/MethodHandle" ∧ y_R_count.cls ≠ "java/lang/invoke/VarHandle" ∧ (parseMethodDescriptor y_R_count.desc).map (fun d => d.parameters.length) = some 1 := by decide +kernel
theorem hd_M_init : y_M_init.cls ≠ "java/lang/invoke/MethodHandle" ∧ y_M_init.cls ≠ "java/lang/invoke/VarHandle" ∧ (parseMethodDescriptor y_M_init.desc).map (fun d => d.parameters.length) = some 0 := by decide +kernel
theorem hd_M_thrown : y_M_thrown.cls ≠ "java/lang/invoke/MethodHandle" ∧ y_M_thrown.cls ≠ "java/lang/invoke/VarHandle" ∧ (parseMethodDescriptor y_M_thrown.desc).map (fun d => d.parameters.length) = some 0 := by decide +kernel
theorem hd_M_days : y_M_days.cls ≠ "java/lang/invoke/MethodHandle" ∧ y_M_days.cls ≠ "java/lang/invoke/VarHandle" ∧ (parseMethodDescriptor y_M_days.desc).map (fun d => d.parameters.length) = some 1 := by decide +kernel
theorem hd_M_in : y_M_in.cls ≠ "java/lang/invoke/MethodHandle" ∧ y_M_in.cls ≠ "java/lang/invoke/VarHandle" ∧ (parseMethodDescriptor y_M_in.desc).map (fun d => d.parameters.length) = some 3 := by decide +kernel
theorem hd_M_throwing : y_M_throwing.cls ≠ "java/lang/invoke/MethodHandle" ∧ y_M_throwing.cls ≠ "java/lang/invoke/VarHandle" ∧ (parseMethodDescriptor y_M_throwing.desc).map (fun d => d.parameters.length) = some 4 := by decide +kernel
theorem hd_M_person : y_M_person.cls ≠ "java/lang/invoke/MethodHandle" ∧ y_M_person.cls ≠ "java/lang/invoke/VarHandle" ∧ (parseMethodDescriptor y_M_person.desc).map (fun d => d.parameters.length) = some 2 := by decide +kernel
theorem hd_M_need : y_M_need.cls ≠ "java/lang/invoke/MethodHandle" ∧ y_M_need.cls ≠ "java/lang/invoke/VarHandle" ∧ (parseMethodDescriptor y_M_need.desc).map (fun d => d.parameters.length) = some 4 := by decide +kernel
theorem hd_M_isDay : y_M_isDay.cls ≠ "java/lang/invoke/MethodHandle" ∧ y_M_isDay.cls ≠ "java/lang/invoke/VarHandle" ∧ (parseMethodDescriptor y_M_isDay.desc).map (fun d => d.parameters.length) = some 1 := by decide +kernel
theorem hd_M_rules : y_M_rules.cls ≠ "java/lang/invoke/MethodHandle" ∧ y_M_rules.cls ≠ "java/lang/invoke/VarHandle" ∧ (parseMethodDescriptor y_M_rules.desc).map (fun d => d.parameters.length) = some 3 := by decide +kernel
theorem hd_M_bar : y_M_bar.cls ≠ "java/lang/invoke/MethodHandle" ∧ y_M_bar.cls ≠ "java/lang/invoke/VarHandle" ∧ (parseMethodDescriptor y_M_bar.desc).map (fun d => d.parameters.length) = some 4 := by decide +kernel
theorem hd_M_isPerson : y_M_isPerson.cls ≠ "java/lang/invoke/MethodHandle" ∧ y_M_isPerson.cls ≠ "java/lang/invoke/VarHandle" ∧ (parseMethodDescriptor y_M_isPerson.desc).map (fun d => d.parameters.length) = some 1 := by decide +kernel
theorem hd_M_wish : y_M_wish.cls ≠ "java/lang/invoke/MethodHandle" ∧ y_M_wish.cls ≠ "java/lang/invoke/VarHandle" ∧ (parseMethodDescriptor y_M_wish.desc).map (fun d => d.parameters.length) = some 5 := by decide +kernel
theorem hd_M_freeze : y_M_freeze.cls ≠ "java/lang/invoke/MethodHandle" ∧ y_M_freeze.cls ≠ "java/lang/invoke/VarHandle" ∧ (parseMethodDescriptor y_M_freeze.desc).map (fun d => d.parameters.length) = some 1 := by decide +kernel
theorem hd_M_set : y_M_set.cls ≠ "java/lang/invoke/MethodHandle" ∧ y_M_set.cls ≠ "java/lang/invoke/VarHandle" ∧ (parseMethodDescriptor y_M_set.desc).map (fun d => d.parameters.length) = some 3 := by decide +kernel
theorem hd_M_solve : y_M_solve.cls ≠ "java/lang/invoke/MethodHandle" ∧ y_M_solve.cls ≠ "java/lang/invoke/VarHandle" ∧ (parseMethodDescriptor y_M_solve.desc).map (fun d => d.parameters.length) = some 1 := by decide +kernel
theorem hd_M_areMet : y_M_areMet.cls ≠ "java/lang/invoke/MethodHandle" ∧ y_M_areMet.cls ≠ "java/lang/invoke/VarHandle" ∧ (parseMethodDescriptor y_M_areMet.desc).map (fun d => d.parameters.length) = some 2 := by decide +kernel
theorem hd_M_isMet : y_M_isMet.cls ≠ "java/lang/invoke/MethodHandle" ∧ y_M_isMet.cls ≠ "java/lang/invoke/VarHandle" ∧ (parseMethodDescriptor y_M_isMet.desc).map (fun d => d.parameters.length) = some 3 := by decide +kernel
theorem hd_M_search : y_M_search.cls ≠ "java/lang/invoke/MethodHandle" ∧ y_M_search.cls ≠ "java/lang/invoke/VarHandle" ∧ (parseMethodDescriptor y_M_search.desc).map (fun d => d.parameters.length) = some 1 := by decide +kernel
theorem hd_M_givesUp : y_M_givesUp.cls ≠ "java/lang/invoke/MethodHandle" ∧ y_M_givesUp.cls ≠ "java/lang/invoke/VarHandle" ∧ (parseMethodDescriptor y_M_givesUp.desc).map (fun d => d.parameters.length) = some 2 := by decide +kernel
theorem hd_M_isTired : y_M_isTired.cls ≠ "java/lang/invoke/MethodHandle" ∧ y_M_isTired.cls ≠ "java/lang/invoke/VarHandle" ∧ (parseMethodDescriptor y_M_isTired.desc).map (fun d => d.parameters.length) = some 3 := by decide +kernel
theorem hd_M_between : y_M_between.cls ≠ "java/lang/invoke/MethodHandle" ∧ y_M_between.cls ≠ "java/lang/invoke/VarHandle" ∧ (parseMethodDescriptor y_M_between.desc).map (fun d => d.parameters.length) = some 2 := by decide +kernel
theorem hd_M_many : y_M_many.cls ≠ "java/lang/invoke/MethodHandle" ∧ y_M_many.cls ≠ "java/lang/invoke/VarHandle" ∧ (parseMethodDescriptor y_M_many.desc).map (fun d => d.parameters.length) = some 3 := by decide +kernel
theorem hd_M_nightsTo : y_M_nightsTo.cls ≠ "java/lang/invoke/MethodHandle" ∧ y_M_nightsTo.cls ≠ "java/lang/invoke/VarHandle" ∧ (parseMethodDescriptor y_M_nightsTo.desc).map (fun d => d.parameters.length) = some 3 := by decide +kernel
theorem hd_M_unmetTo : y_M_unmetTo.cls ≠ "java/lang/invoke/MethodHandle" ∧ y_M_unmetTo.cls ≠ "java/lang/invoke/VarHandle" ∧ (parseMethodDescriptor y_M_unmetTo.desc).map (fun d => d.parameters.length) = some 2 := by decide +kernel
theorem hd_M_solved : y_M_solved.cls ≠ "java/lang/invoke/MethodHandle" ∧ y_M_solved.cls ≠ "java/lang/invoke/VarHandle" ∧ (parseMethodDescriptor y_M_solved.desc).map (fun d => d.parameters.length) = some 1 := by decide +kernel
theorem hd_M_swap : y_M_swap.cls ≠ "java/lang/invoke/MethodHandle" ∧ y_M_swap.cls ≠ "java/lang/invoke/VarHandle" ∧ (parseMethodDescriptor y_M_swap.desc).map (fun d => d.parameters.length) = some 3 := by decide +kernel
theorem hd_M_wrongWith : y_M_wrongWith.cls ≠ "java/lang/invoke/MethodHandle" ∧ y_M_wrongWith.cls ≠ "java/lang/invoke/VarHandle" ∧ (parseMethodDescriptor y_M_wrongWith.desc).map (fun d => d.parameters.length) = some 1 := by decide +kernel
theorem hd_M_shift : y_M_shift.cls ≠ "java/lang/invoke/MethodHandle" ∧ y_M_shift.cls ≠ "java/lang/invoke/VarHandle" ∧ (parseMethodDescriptor y_M_shift.desc).map (fun d => d.parameters.length) = some 2 := by decide +kernel
theorem hd_M_wrong : y_M_wrong.cls ≠ "java/lang/invoke/MethodHandle" ∧ y_M_wrong.cls ≠ "java/lang/invoke/VarHandle" ∧ (parseMethodDescriptor y_M_wrong.desc).map (fun d => d.parameters.length) = some 0 := by decide +kernel
theorem hd_M_unmet : y_M_unmet.cls ≠ "java/lang/invoke/MethodHandle" ∧ y_M_unmet.cls ≠ "java/lang/invoke/VarHandle" ∧ (parseMethodDescriptor y_M_unmet.desc).map (fun d => d.parameters.length) = some 0 := by decide +kernel
theorem hd_M_cost : y_M_cost.cls ≠ "java/lang/invoke/MethodHandle" ∧ y_M_cost.cls ≠ "java/lang/invoke/VarHandle" ∧ (parseMethodDescriptor y_M_cost.desc).map (fun d => d.parameters.length) = some 0 := by decide +kernel
theorem hd_M_costOf : y_M_costOf.cls ≠ "java/lang/invoke/MethodHandle" ∧ y_M_costOf.cls ≠ "java/lang/invoke/VarHandle" ∧ (parseMethodDescriptor y_M_costOf.desc).map (fun d => d.parameters.length) = some 1 := by decide +kernel
theorem hd_M_share : y_M_share.cls ≠ "java/lang/invoke/MethodHandle" ∧ y_M_share.cls ≠ "java/lang/invoke/VarHandle" ∧ (parseMethodDescriptor y_M_share.desc).map (fun d => d.parameters.length) = some 1 := by decide +kernel
theorem hd_M_publish : y_M_publish.cls ≠ "java/lang/invoke/MethodHandle" ∧ y_M_publish.cls ≠ "java/lang/invoke/VarHandle" ∧ (parseMethodDescriptor y_M_publish.desc).map (fun d => d.parameters.length) = some 0 := by decide +kernel
theorem hd_M_count : y_M_count.cls ≠ "java/lang/invoke/MethodHandle" ∧ y_M_count.cls ≠ "java/lang/invoke/VarHandle" ∧ (parseMethodDescriptor y_M_count.desc).map (fun d => d.parameters.length) = some 1 := by decide +kernel
set_option maxHeartbeats 4000000 in
set_option maxRecDepth 100000 in
theorem c_R_cell (l : Launch) (D : va_G) (a b : Nat) : Met l y_R_cell w_R_cell { frames := 0, cells := 0, slots := 0, locals := 0 } (ro_P [.int (nI a), .int (nI b)] D ([]) ([])) (vp_Si (fun r => r = nI (b * 6 + a))) 0 0 (fun _ => False) := by
  refine Met.ofW (cc := b_R_cell) (maxL := 2) (ret := (some .int)) (by decide) rfl ?_
  intro p e s m args below meth c s₁ B hml hv
  obtain ⟨rfl, hN, hP, hK⟩ := hv
  have hx := B.exec
  have hb := B.bytes
  have hr := B.returns
  have hts := atoms_spec (ws := w_R_cell) B.pre
  have htb : ∀ w ∈ TBG, w.before [.int (nI a), .int (nI b)].toArray s = true := fun w h => hts w (List.mem_cons_of_mem _ h)
  have hown : s.vm.findClass R_R = some m.cls := findClass_of_methodNamed B.named
  have hlocks := B.notSynchronized
  have hl := lv_entry ([.int (nI a), .int (nI b)]) (n := 2) (Nat.le_of_ble_eq_true rfl)
  rw [lg_entry_eq]
  generalize (lg_sl ([.int (nI a), .int (nI b)]) ++ List.replicate (2 - (lg_sl ([.int (nI a), .int (nI b)])).length) Slot.unset).toArray = ls at hl ⊢
  have hl : lv_has ls 2 [(0, .int (nI a)), (1, .int (nI b))] := hl
  refine lv_iload_n hx hb d_R_cell_0 rfl (lv_at hl 1 rfl) ?_
  refine nr_bipush hx hb 6 d_R_cell_1 (by decide) ?_
  refine nr_imul hx hb d_R_cell_3 ?_
  refine lv_iload_n hx hb d_R_cell_4 rfl (lv_at hl 0 rfl) ?_
  refine nr_iadd hx hb d_R_cell_5 ?_
  exact W.iret (v := (nI ((b * 6) + a))) hx hb hr (fun t ht hW => ⟨_, rfl, rfl, ht⟩) (fun q h => by cases h) d_R_cell_6
set_option maxHeartbeats 4000000 in
set_option maxRecDepth 100000 in
theorem c_R_choice (l : Launch) (D : va_G) (a b d : Nat) : Met l y_R_choice w_R_choice { frames := 1, cells := 0, slots := 0, locals := 21 } (ro_P [.int (nI a), .int (nI b), .int (nI d)] D ([]) ([])) (vp_Si (fun r => r = nI ((b * 6 + a) * 4 + d))) 0 0 (fun _ => False) := by
  refine Met.ofW (cc := b_R_choice) (maxL := 3) (ret := (some .int)) (by decide) rfl ?_
  intro p e s m args below meth c s₁ B hml hv
  obtain ⟨rfl, hN, hP, hK⟩ := hv
  have hx := B.exec
  have hb := B.bytes
  have hr := B.returns
  have hts := atoms_spec (ws := w_R_choice) B.pre
  have htb : ∀ w ∈ TBG, w.before [.int (nI a), .int (nI b), .int (nI d)].toArray s = true := fun w h => hts w (List.mem_cons_of_mem _ h)
  have hown : s.vm.findClass R_R = some m.cls := findClass_of_methodNamed B.named
  have hlocks := B.notSynchronized
  have hl := lv_entry ([.int (nI a), .int (nI b), .int (nI d)]) (n := 3) (Nat.le_of_ble_eq_true rfl)
  rw [lg_entry_eq]
  generalize (lg_sl ([.int (nI a), .int (nI b), .int (nI d)]) ++ List.replicate (3 - (lg_sl ([.int (nI a), .int (nI b), .int (nI d)])).length) Slot.unset).toArray = ls at hl ⊢
  have hl : lv_has ls 3 [(0, .int (nI a)), (1, .int (nI b)), (2, .int (nI d))] := hl
  refine lv_iload_n hx hb d_R_choice_0 rfl (lv_at hl 0 rfl) ?_
  refine lv_iload_n hx hb d_R_choice_1 rfl (lv_at hl 1 rfl) ?_
  refine nr_calli (va_runS (As := [.int (nI a), .int (nI b)]) (rest := []) ⟨hx, hb, hml, hown, hts⟩ (c_R_cell l D a b) ⟨callB_of 2 hts (gTB q_R_cell) rfl rfl rfl (htb _ q1) (htb _ q208) hd_R_cell ⟨Nat.le_of_ble_eq_true rfl, Nat.le_of_ble_eq_true rfl⟩, (htb _ q174)⟩ ⟨ro_blind, ro_pre hN (hP.sub (ws' := []) [] rfl) (hK.sub (tys' := []) [] rfl)⟩ rfl rfl hl.1 rfl (lv_room (Nat.le_of_ble_eq_true rfl)) d_R_choice_2 ⟨Nat.le_of_ble_eq_true rfl, Nat.le_of_ble_eq_true rfl⟩) (fun r_1 hr_1 => ?_)
  subst hr_1
  refine nr_iconst hx hb 4 d_R_choice_5 (by decide) ?_
  refine nr_imul hx hb d_R_choice_6 ?_
  refine lv_iload_n hx hb d_R_choice_7 rfl (lv_at hl 2 rfl) ?_
  refine nr_iadd hx hb d_R_choice_8 ?_
  exact W.iret (v := (nI (((b * 6 + a) * 4) + d))) hx hb hr (fun t ht hW => ⟨_, rfl, rfl, ht⟩) (fun q h => by cases h) d_R_choice_9
set_option maxHeartbeats 4000000 in
set_option maxRecDepth 100000 in
theorem c_R_slot (l : Launch) (D : va_G) (a b : Nat) : Met l y_R_slot w_R_slot { frames := 0, cells := 0, slots := 0, locals := 0 } (ro_P [.int (nI a), .int (nI b)] D ([]) ([])) (vp_Si (fun r => r = nI (a * 4 + b))) 0 0 (fun _ => False) := by
  refine Met.ofW (cc := b_R_slot) (maxL := 2) (ret := (some .int)) (by decide) rfl ?_
  intro p e s m args below meth c s₁ B hml hv
  obtain ⟨rfl, hN, hP, hK⟩ := hv
  have hx := B.exec
  have hb := B.bytes
  have hr := B.returns
  have hts := atoms_spec (ws := w_R_slot) B.pre
  have htb : ∀ w ∈ TBG, w.before [.int (nI a), .int (nI b)].toArray s = true := fun w h => hts w (List.mem_cons_of_mem _ h)
  have hown : s.vm.findClass R_R = some m.cls := findClass_of_methodNamed B.named
  have hlocks := B.notSynchronized
  have hl := lv_entry ([.int (nI a), .int (nI b)]) (n := 2) (Nat.le_of_ble_eq_true rfl)
  rw [lg_entry_eq]
  generalize (lg_sl ([.int (nI a), .int (nI b)]) ++ List.replicate (2 - (lg_sl ([.int (nI a), .int (nI b)])).length) Slot.unset).toArray = ls at hl ⊢
  have hl : lv_has ls 2 [(0, .int (nI a)), (1, .int (nI b))] := hl
  refine lv_iload_n hx hb d_R_slot_0 rfl (lv_at hl 0 rfl) ?_
  refine nr_iconst hx hb 4 d_R_slot_1 (by decide) ?_
  refine nr_imul hx hb d_R_slot_2 ?_
  refine lv_iload_n hx hb d_R_slot_3 rfl (lv_at hl 1 rfl) ?_
  refine nr_iadd hx hb d_R_slot_4 ?_
  exact W.iret (v := (nI ((a * 4) + b))) hx hb hr (fun t ht hW => ⟨_, rfl, rfl, ht⟩) (fun q h => by cases h) d_R_slot_5
set_option maxHeartbeats 4000000 in
set_option maxRecDepth 100000 in
theorem c_P_faultNumber (l : Launch) (D : va_G) (a b d : Nat) : Met l y_P_faultNumber w_P_faultNumber { frames := 0, cells := 0, slots := 0, locals := 0 } (ro_P [.int (nI a), .int (nI b), .int (nI d)] D ([]) ([])) (vp_Si (fun r => r = nI (100 * a + 10 * b + d))) 0 0 (fun _ => False) := by
  refine Met.ofW (cc := b_P_faultNumber) (maxL := 3) (ret := (some .int)) (by decide) rfl ?_
  intro p e s m args below meth c s₁ B hml hv
  obtain ⟨rfl, hN, hP, hK⟩ := hv
  have hx := B.exec
  have hb := B.bytes
  have hr := B.returns
  have hts := atoms_spec (ws := w_P_faultNumber) B.pre
  have htb : ∀ w ∈ TBG, w.before [.int (nI a), .int (nI b), .int (nI d)].toArray s = true := fun w h => hts w (List.mem_cons_of_mem _ h)
  have hown : s.vm.findClass R_P = some m.cls := findClass_of_methodNamed B.named
  have hlocks := B.notSynchronized
  have hl := lv_entry ([.int (nI a), .int (nI b), .int (nI d)]) (n := 3) (Nat.le_of_ble_eq_true rfl)
  rw [lg_entry_eq]
  generalize (lg_sl ([.int (nI a), .int (nI b), .int (nI d)]) ++ List.replicate (3 - (lg_sl ([.int (nI a), .int (nI b), .int (nI d)])).length) Slot.unset).toArray = ls at hl ⊢
  have hl : lv_has ls 3 [(0, .int (nI a)), (1, .int (nI b)), (2, .int (nI d))] := hl
  refine nr_bipush hx hb 100 d_P_faultNumber_0 (by decide) ?_
  refine lv_iload_n hx hb d_P_faultNumber_2 rfl (lv_at hl 0 rfl) ?_
  refine nr_imul hx hb d_P_faultNumber_3 ?_
  refine nr_bipush hx hb 10 d_P_faultNumber_4 (by decide) ?_
  refine lv_iload_n hx hb d_P_faultNumber_6 rfl (lv_at hl 1 rfl) ?_
  refine nr_imul hx hb d_P_faultNumber_7 ?_
  refine nr_iadd hx hb d_P_faultNumber_8 ?_
  refine lv_iload_n hx hb d_P_faultNumber_9 rfl (lv_at hl 2 rfl) ?_
  refine nr_iadd hx hb d_P_faultNumber_10 ?_
  exact W.iret (v := (nI (((100 * a) + (10 * b)) + d))) hx hb hr (fun t ht hW => ⟨_, rfl, rfl, ht⟩) (fun q h => by cases h) d_P_faultNumber_11
set_option maxHeartbeats 4000000 in
set_option maxRecDepth 100000 in
theorem c_P_hoursBetween (l : Launch) (D : va_G) (a b : Nat) (ha : a ≤ 3) (hb1 : 1 ≤ b) (hb3 : b ≤ 3) : Met l y_P_hoursBetween w_P_hoursBetween { frames := 0, cells := 0, slots := 0, locals := 0 } (ro_P [.int (nI a), .int (nI b)] D ([]) ([])) (vp_Si (fun r => r = nI (16 + 8 * b - 8 * a))) 0 0 (fun _ => False) := by
  refine Met.ofW (cc := b_P_hoursBetween) (maxL := 2) (ret := (some .int)) (by decide) rfl ?_
  intro p e s m args below meth c s₁ B hml hv
  obtain ⟨rfl, hN, hP, hK⟩ := hv
  have hx := B.exec
  have hb := B.bytes
  have hr := B.returns
  have hts := atoms_spec (ws := w_P_hoursBetween) B.pre
  have htb : ∀ w ∈ TBG, w.before [.int (nI a), .int (nI b)].toArray s = true := fun w h => hts w (List.mem_cons_of_mem _ h)
  have hown : s.vm.findClass R_P = some m.cls := findClass_of_methodNamed B.named
  have hlocks := B.notSynchronized
  have hl := lv_entry ([.int (nI a), .int (nI b)]) (n := 2) (Nat.le_of_ble_eq_true rfl)
  rw [lg_entry_eq]
  generalize (lg_sl ([.int (nI a), .int (nI b)]) ++ List.replicate (2 - (lg_sl ([.int (nI a), .int (nI b)])).length) Slot.unset).toArray = ls at hl ⊢
  have hl : lv_has ls 2 [(0, .int (nI a)), (1, .int (nI b))] := hl
  refine nr_bipush hx hb 16 d_P_hoursBetween_0 (by decide) ?_
  refine nr_bipush hx hb 8 d_P_hoursBetween_2 (by decide) ?_
  refine lv_iload_n hx hb d_P_hoursBetween_4 rfl (lv_at hl 1 rfl) ?_
  refine lv_iload_n hx hb d_P_hoursBetween_5 rfl (lv_at hl 0 rfl) ?_
  refine lv_isub hx hb d_P_hoursBetween_6 ?_
  refine lv_imul hx hb d_P_hoursBetween_7 ?_
  refine lv_iadd hx hb d_P_hoursBetween_8 ?_
  exact W.iret hx hb hr (fun t ht hW => ⟨_, rfl, hours_eq ha hb1 hb3, ht⟩) (fun q h => by cases h) d_P_hoursBetween_9
set_option maxHeartbeats 4000000 in
set_option maxRecDepth 100000 in
theorem c_P_breaksRest (l : Launch) (D : va_G) (ad : Nat → Nat) (ca : Nat → ClassId) (P : Nat → Nat → Nat) (a : Nat) (cS : ClassId) (sh : Nat → Nat) (hP0 : okP P) (hsh : ∀ k, sh k ≤ 3) (x y : Nat) (hx3 : x ≤ 3) (hy3 : y ≤ 3) : Met l y_P_breaksRest w_P_breaksRest { frames := 1, cells := 0, slots := 0, locals := 21 } (ro_P [.ref (ad 1), .int (nI x), .int (nI y)] D (wPS ad ca P a cS sh) (tPS ca cS)) (vp_Si (fun r => r = nI (if breaks P x y = true then 1 else 0))) 0 0 (fun _ => False) := by
  refine Met.ofW (cc := b_P_breaksRest) (maxL := 3) (ret := (some .boolean)) (by decide) rfl ?_
  intro p e s m args below meth c s₁ B hml hv
  obtain ⟨rfl, hN, hP, hK⟩ := hv
  have hx := B.exec
  have hb := B.bytes
  have hr := B.returns
  have hts := atoms_spec (ws := w_P_breaksRest) B.pre
  have htb : ∀ w ∈ TBG, w.before [.ref (ad 1), .int (nI x), .int (nI y)].toArray s = true := fun w h => hts w (List.mem_cons_of_mem _ h)
  have hown : s.vm.findClass R_P = some m.cls := findClass_of_methodNamed B.named
  have hlocks := B.notSynchronized
  have hl := lv_entry ([.ref (ad 1), .int (nI x), .int (nI y)]) (n := 3) (Nat.le_of_ble_eq_true rfl)
  rw [lg_entry_eq]
  generalize (lg_sl ([.ref (ad 1), .int (nI x), .int (nI y)]) ++ List.replicate (3 - (lg_sl ([.ref (ad 1), .int (nI x), .int (nI y)])).length) Slot.unset).toArray = ls at hl ⊢
  have hl : lv_has ls 3 [(0, .ref (ad 1)), (1, .int (nI x)), (2, .int (nI y))] := hl
  obtain ⟨h00, h01, h02, h03, h04, h05, hp1, hp2, hp3, hp4, hp5, hp6⟩ := id hP0
  refine lv_iload_n hx hb d_P_breaksRest_0 rfl (lv_at hl 1 rfl) ?_
  refine nr_if_eq (tgt := 24) hx hb (by omega) d_P_breaksRest_1 (by decide) (fun c_1 => ?_) (fun c_1 => ?_)
  · refine nr_iconst hx hb 0 d_P_breaksRest_24 (by decide) ?_
    exact W.zret (v := (nI 0)) hx hb hr rfl (fun t ht hW => ⟨_, rfl, by unfold breaks; rw [if_neg (by simp; omega)], ht⟩) (fun q h => by cases h) d_P_breaksRest_25
  · refine lv_iload_n hx hb d_P_breaksRest_4 rfl (lv_at hl 2 rfl) ?_
    refine nr_if_eq (tgt := 24) hx hb (by omega) d_P_breaksRest_5 (by decide) (fun c_5 => ?_) (fun c_5 => ?_)
    · refine nr_iconst hx hb 0 d_P_breaksRest_24 (by decide) ?_
      exact W.zret (v := (nI 0)) hx hb hr rfl (fun t ht hW => ⟨_, rfl, by unfold breaks; rw [if_neg (by simp; omega)], ht⟩) (fun q h => by cases h) d_P_breaksRest_25
    · refine lv_iload_n hx hb d_P_breaksRest_8 rfl (lv_at hl 1 rfl) ?_
      refine lv_iload_n hx hb d_P_breaksRest_9 rfl (lv_at hl 2 rfl) ?_
      refine nr_calli (va_runS (As := [.int (nI x), .int (nI y)]) (rest := []) ⟨hx, hb, hml, hown, hts⟩ (c_P_hoursBetween l D x y (by omega) (by omega) (by omega)) ⟨callB_of 2 hts (gTB q_P_hoursBetween) rfl rfl rfl (htb _ q2) (htb _ q190) hd_P_hoursBetween ⟨Nat.le_of_ble_eq_true rfl, Nat.le_of_ble_eq_true rfl⟩, (htb _ q191)⟩ ⟨ro_blind, ro_pre hN (hP.sub (ws' := []) [] rfl) (hK.sub (tys' := []) [] rfl)⟩ rfl rfl hl.1 rfl (lv_room (Nat.le_of_ble_eq_true rfl)) d_P_breaksRest_10 ⟨Nat.le_of_ble_eq_true rfl, Nat.le_of_ble_eq_true rfl⟩) (fun r_1 hr_1 => ?_)
      subst hr_1
      refine lv_aload_n hx hb d_P_breaksRest_13 rfl (lv_at hl 0 rfl) ?_
      refine va_get (D := D) (ci := 0) (v := .int (nI (P 0 2))) (C := R_P) (T := F_P) (N := 12) hx hb htb u_P hown hK hP 0 rfl rfl 2 (by decide) (htb _ q34) (fun _ h9 => h9) rfl d_P_breaksRest_14 ?_
      refine nr_icmp_ge (tgt := 24) hx hb (by omega) (by omega) d_P_breaksRest_17 (by decide) (fun c_17 => ?_) (fun c_17 => ?_)
      · refine nr_iconst hx hb 0 d_P_breaksRest_24 (by decide) ?_
        exact W.zret (v := (nI 0)) hx hb hr rfl (fun t ht hW => ⟨_, rfl, by unfold breaks; rw [if_neg (by simp; omega)], ht⟩) (fun q h => by cases h) d_P_breaksRest_25
      · refine nr_iconst hx hb 1 d_P_breaksRest_20 (by decide) ?_
        refine lv_goto (tgt := 25) hx hb d_P_breaksRest_21 (by decide) ?_
        exact W.zret (v := (nI 1)) hx hb hr rfl (fun t ht hW => ⟨_, rfl, by unfold breaks; rw [if_pos (by simp; omega)], ht⟩) (fun q h => by cases h) d_P_breaksRest_25
