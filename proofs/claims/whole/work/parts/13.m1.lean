/-! ===== the reference: its small methods ===== -/
theorem hdX0_init : yX0_init.cls = yX0_init.cls ∧ yX0_init.cls ≠ "java/lang/invoke/MethodHandle" ∧ yX0_init.cls ≠ "java/lang/invoke/VarHandle" ∧ (parseMethodDescriptor yX0_init.desc).map (fun d => d.parameters.length) = some 4 := by decide +kernel
theorem hdX0_reached : yX0_reached.cls = yX0_reached.cls ∧ yX0_reached.cls ≠ "java/lang/invoke/MethodHandle" ∧ yX0_reached.cls ≠ "java/lang/invoke/VarHandle" ∧ (parseMethodDescriptor yX0_reached.desc).map (fun d => d.parameters.length) = some 0 := by decide +kernel
theorem hdX0_advance : yX0_advance.cls = yX0_advance.cls ∧ yX0_advance.cls ≠ "java/lang/invoke/MethodHandle" ∧ yX0_advance.cls ≠ "java/lang/invoke/VarHandle" ∧ (parseMethodDescriptor yX0_advance.desc).map (fun d => d.parameters.length) = some 3 := by decide +kernel
theorem hdX0_goThrough : yX0_goThrough.cls = yX0_goThrough.cls ∧ yX0_goThrough.cls ≠ "java/lang/invoke/MethodHandle" ∧ yX0_goThrough.cls ≠ "java/lang/invoke/VarHandle" ∧ (parseMethodDescriptor yX0_goThrough.desc).map (fun d => d.parameters.length) = some 3 := by decide +kernel
theorem hdX0_share : yX0_share.cls = yX0_share.cls ∧ yX0_share.cls ≠ "java/lang/invoke/MethodHandle" ∧ yX0_share.cls ≠ "java/lang/invoke/VarHandle" ∧ (parseMethodDescriptor yX0_share.desc).map (fun d => d.parameters.length) = some 4 := by decide +kernel
theorem hdX0_passes : yX0_passes.cls = yX0_passes.cls ∧ yX0_passes.cls ≠ "java/lang/invoke/MethodHandle" ∧ yX0_passes.cls ≠ "java/lang/invoke/VarHandle" ∧ (parseMethodDescriptor yX0_passes.desc).map (fun d => d.parameters.length) = some 2 := by decide +kernel
theorem hdX0_throwsAgain : yX0_throwsAgain.cls = yX0_throwsAgain.cls ∧ yX0_throwsAgain.cls ≠ "java/lang/invoke/MethodHandle" ∧ yX0_throwsAgain.cls ≠ "java/lang/invoke/VarHandle" ∧ (parseMethodDescriptor yX0_throwsAgain.desc).map (fun d => d.parameters.length) = some 1 := by decide +kernel
theorem hdX0_startBatch : yX0_startBatch.cls = yX0_startBatch.cls ∧ yX0_startBatch.cls ≠ "java/lang/invoke/MethodHandle" ∧ yX0_startBatch.cls ≠ "java/lang/invoke/VarHandle" ∧ (parseMethodDescriptor yX0_startBatch.desc).map (fun d => d.parameters.length) = some 0 := by decide +kernel
theorem hdX0_returnToStart : yX0_returnToStart.cls = yX0_returnToStart.cls ∧ yX0_returnToStart.cls ≠ "java/lang/invoke/MethodHandle" ∧ yX0_returnToStart.cls ≠ "java/lang/invoke/VarHandle" ∧ (parseMethodDescriptor yX0_returnToStart.desc).map (fun d => d.parameters.length) = some 0 := by decide +kernel
theorem hdX1_init : yX1_init.cls = yX1_init.cls ∧ yX1_init.cls ≠ "java/lang/invoke/MethodHandle" ∧ yX1_init.cls ≠ "java/lang/invoke/VarHandle" ∧ (parseMethodDescriptor yX1_init.desc).map (fun d => d.parameters.length) = some 0 := by decide +kernel
theorem hdX1_amount : yX1_amount.cls = yX1_amount.cls ∧ yX1_amount.cls ≠ "java/lang/invoke/MethodHandle" ∧ yX1_amount.cls ≠ "java/lang/invoke/VarHandle" ∧ (parseMethodDescriptor yX1_amount.desc).map (fun d => d.parameters.length) = some 0 := by decide +kernel
theorem hdX2_init : yX2_init.cls = yX2_init.cls ∧ yX2_init.cls ≠ "java/lang/invoke/MethodHandle" ∧ yX2_init.cls ≠ "java/lang/invoke/VarHandle" ∧ (parseMethodDescriptor yX2_init.desc).map (fun d => d.parameters.length) = some 0 := by decide +kernel
theorem hdX2_handles : yX2_handles.cls = yX2_handles.cls ∧ yX2_handles.cls ≠ "java/lang/invoke/MethodHandle" ∧ yX2_handles.cls ≠ "java/lang/invoke/VarHandle" ∧ (parseMethodDescriptor yX2_handles.desc).map (fun d => d.parameters.length) = some 3 := by decide +kernel
theorem hdX2_keep : yX2_keep.cls = yX2_keep.cls ∧ yX2_keep.cls ≠ "java/lang/invoke/MethodHandle" ∧ yX2_keep.cls ≠ "java/lang/invoke/VarHandle" ∧ (parseMethodDescriptor yX2_keep.desc).map (fun d => d.parameters.length) = some 0 := by decide +kernel
theorem hdX2_restore : yX2_restore.cls = yX2_restore.cls ∧ yX2_restore.cls ≠ "java/lang/invoke/MethodHandle" ∧ yX2_restore.cls ≠ "java/lang/invoke/VarHandle" ∧ (parseMethodDescriptor yX2_restore.desc).map (fun d => d.parameters.length) = some 0 := by decide +kernel
theorem hdX2_amount : yX2_amount.cls = yX2_amount.cls ∧ yX2_amount.cls ≠ "java/lang/invoke/MethodHandle" ∧ yX2_amount.cls ≠ "java/lang/invoke/VarHandle" ∧ (parseMethodDescriptor yX2_amount.desc).map (fun d => d.parameters.length) = some 0 := by decide +kernel
theorem hdX2_byteAt : yX2_byteAt.cls = yX2_byteAt.cls ∧ yX2_byteAt.cls ≠ "java/lang/invoke/MethodHandle" ∧ yX2_byteAt.cls ≠ "java/lang/invoke/VarHandle" ∧ (parseMethodDescriptor yX2_byteAt.desc).map (fun d => d.parameters.length) = some 1 := by decide +kernel
theorem hdX2_soundRecords : yX2_soundRecords.cls = yX2_soundRecords.cls ∧ yX2_soundRecords.cls ≠ "java/lang/invoke/MethodHandle" ∧ yX2_soundRecords.cls ≠ "java/lang/invoke/VarHandle" ∧ (parseMethodDescriptor yX2_soundRecords.desc).map (fun d => d.parameters.length) = some 0 := by decide +kernel
theorem hdX2_sumOfFirst : yX2_sumOfFirst.cls = yX2_sumOfFirst.cls ∧ yX2_sumOfFirst.cls ≠ "java/lang/invoke/MethodHandle" ∧ yX2_sumOfFirst.cls ≠ "java/lang/invoke/VarHandle" ∧ (parseMethodDescriptor yX2_sumOfFirst.desc).map (fun d => d.parameters.length) = some 1 := by decide +kernel
theorem hdX2_append : yX2_append.cls = yX2_append.cls ∧ yX2_append.cls ≠ "java/lang/invoke/MethodHandle" ∧ yX2_append.cls ≠ "java/lang/invoke/VarHandle" ∧ (parseMethodDescriptor yX2_append.desc).map (fun d => d.parameters.length) = some 1 := by decide +kernel
theorem hdX2_isSoundAt : yX2_isSoundAt.cls = yX2_isSoundAt.cls ∧ yX2_isSoundAt.cls ≠ "java/lang/invoke/MethodHandle" ∧ yX2_isSoundAt.cls ≠ "java/lang/invoke/VarHandle" ∧ (parseMethodDescriptor yX2_isSoundAt.desc).map (fun d => d.parameters.length) = some 1 := by decide +kernel
theorem hdX2_sumOfRecordAt : yX2_sumOfRecordAt.cls = yX2_sumOfRecordAt.cls ∧ yX2_sumOfRecordAt.cls ≠ "java/lang/invoke/MethodHandle" ∧ yX2_sumOfRecordAt.cls ≠ "java/lang/invoke/VarHandle" ∧ (parseMethodDescriptor yX2_sumOfRecordAt.desc).map (fun d => d.parameters.length) = some 1 := by decide +kernel
theorem hdX2_valueAt : yX2_valueAt.cls = yX2_valueAt.cls ∧ yX2_valueAt.cls ≠ "java/lang/invoke/MethodHandle" ∧ yX2_valueAt.cls ≠ "java/lang/invoke/VarHandle" ∧ (parseMethodDescriptor yX2_valueAt.desc).map (fun d => d.parameters.length) = some 1 := by decide +kernel
theorem hdX3_init : yX3_init.cls = yX3_init.cls ∧ yX3_init.cls ≠ "java/lang/invoke/MethodHandle" ∧ yX3_init.cls ≠ "java/lang/invoke/VarHandle" ∧ (parseMethodDescriptor yX3_init.desc).map (fun d => d.parameters.length) = some 0 := by decide +kernel
theorem hdX3_handles : yX3_handles.cls = yX3_handles.cls ∧ yX3_handles.cls ≠ "java/lang/invoke/MethodHandle" ∧ yX3_handles.cls ≠ "java/lang/invoke/VarHandle" ∧ (parseMethodDescriptor yX3_handles.desc).map (fun d => d.parameters.length) = some 3 := by decide +kernel
theorem hdX3_keep : yX3_keep.cls = yX3_keep.cls ∧ yX3_keep.cls ≠ "java/lang/invoke/MethodHandle" ∧ yX3_keep.cls ≠ "java/lang/invoke/VarHandle" ∧ (parseMethodDescriptor yX3_keep.desc).map (fun d => d.parameters.length) = some 0 := by decide +kernel
theorem hdX3_restore : yX3_restore.cls = yX3_restore.cls ∧ yX3_restore.cls ≠ "java/lang/invoke/MethodHandle" ∧ yX3_restore.cls ≠ "java/lang/invoke/VarHandle" ∧ (parseMethodDescriptor yX3_restore.desc).map (fun d => d.parameters.length) = some 0 := by decide +kernel
theorem hdX4_init : yX4_init.cls = yX4_init.cls ∧ yX4_init.cls ≠ "java/lang/invoke/MethodHandle" ∧ yX4_init.cls ≠ "java/lang/invoke/VarHandle" ∧ (parseMethodDescriptor yX4_init.desc).map (fun d => d.parameters.length) = some 1 := by decide +kernel
theorem hdX4_add : yX4_add.cls = yX4_add.cls ∧ yX4_add.cls ≠ "java/lang/invoke/MethodHandle" ∧ yX4_add.cls ≠ "java/lang/invoke/VarHandle" ∧ (parseMethodDescriptor yX4_add.desc).map (fun d => d.parameters.length) = some 1 := by decide +kernel
theorem hdX4_takeNext : yX4_takeNext.cls = yX4_takeNext.cls ∧ yX4_takeNext.cls ≠ "java/lang/invoke/MethodHandle" ∧ yX4_takeNext.cls ≠ "java/lang/invoke/VarHandle" ∧ (parseMethodDescriptor yX4_takeNext.desc).map (fun d => d.parameters.length) = some 0 := by decide +kernel
theorem hdX4_reached : yX4_reached.cls = yX4_reached.cls ∧ yX4_reached.cls ≠ "java/lang/invoke/MethodHandle" ∧ yX4_reached.cls ≠ "java/lang/invoke/VarHandle" ∧ (parseMethodDescriptor yX4_reached.desc).map (fun d => d.parameters.length) = some 0 := by decide +kernel
theorem hdX5_init : yX5_init.cls = yX5_init.cls ∧ yX5_init.cls ≠ "java/lang/invoke/MethodHandle" ∧ yX5_init.cls ≠ "java/lang/invoke/VarHandle" ∧ (parseMethodDescriptor yX5_init.desc).map (fun d => d.parameters.length) = some 1 := by decide +kernel
theorem hdX5_slots : yX5_slots.cls = yX5_slots.cls ∧ yX5_slots.cls ≠ "java/lang/invoke/MethodHandle" ∧ yX5_slots.cls ≠ "java/lang/invoke/VarHandle" ∧ (parseMethodDescriptor yX5_slots.desc).map (fun d => d.parameters.length) = some 0 := by decide +kernel
theorem hdX5_slotOf : yX5_slotOf.cls = yX5_slotOf.cls ∧ yX5_slotOf.cls ≠ "java/lang/invoke/MethodHandle" ∧ yX5_slotOf.cls ≠ "java/lang/invoke/VarHandle" ∧ (parseMethodDescriptor yX5_slotOf.desc).map (fun d => d.parameters.length) = some 1 := by decide +kernel
theorem hdX5_reserve : yX5_reserve.cls = yX5_reserve.cls ∧ yX5_reserve.cls ≠ "java/lang/invoke/MethodHandle" ∧ yX5_reserve.cls ≠ "java/lang/invoke/VarHandle" ∧ (parseMethodDescriptor yX5_reserve.desc).map (fun d => d.parameters.length) = some 2 := by decide +kernel
theorem hdX5_isOpen : yX5_isOpen.cls = yX5_isOpen.cls ∧ yX5_isOpen.cls ≠ "java/lang/invoke/MethodHandle" ∧ yX5_isOpen.cls ≠ "java/lang/invoke/VarHandle" ∧ (parseMethodDescriptor yX5_isOpen.desc).map (fun d => d.parameters.length) = some 2 := by decide +kernel
theorem hdX5_write : yX5_write.cls = yX5_write.cls ∧ yX5_write.cls ≠ "java/lang/invoke/MethodHandle" ∧ yX5_write.cls ≠ "java/lang/invoke/VarHandle" ∧ (parseMethodDescriptor yX5_write.desc).map (fun d => d.parameters.length) = some 2 := by decide +kernel
theorem hdX5_publishedInSlotOf : yX5_publishedInSlotOf.cls = yX5_publishedInSlotOf.cls ∧ yX5_publishedInSlotOf.cls ≠ "java/lang/invoke/MethodHandle" ∧ yX5_publishedInSlotOf.cls ≠ "java/lang/invoke/VarHandle" ∧ (parseMethodDescriptor yX5_publishedInSlotOf.desc).map (fun d => d.parameters.length) = some 1 := by decide +kernel
theorem hdX5_valueOf : yX5_valueOf.cls = yX5_valueOf.cls ∧ yX5_valueOf.cls ≠ "java/lang/invoke/MethodHandle" ∧ yX5_valueOf.cls ≠ "java/lang/invoke/VarHandle" ∧ (parseMethodDescriptor yX5_valueOf.desc).map (fun d => d.parameters.length) = some 1 := by decide +kernel
theorem hdX5_producerOf : yX5_producerOf.cls = yX5_producerOf.cls ∧ yX5_producerOf.cls ≠ "java/lang/invoke/MethodHandle" ∧ yX5_producerOf.cls ≠ "java/lang/invoke/VarHandle" ∧ (parseMethodDescriptor yX5_producerOf.desc).map (fun d => d.parameters.length) = some 1 := by decide +kernel
theorem hdX6_init : yX6_init.cls = yX6_init.cls ∧ yX6_init.cls ≠ "java/lang/invoke/MethodHandle" ∧ yX6_init.cls ≠ "java/lang/invoke/VarHandle" ∧ (parseMethodDescriptor yX6_init.desc).map (fun d => d.parameters.length) = some 0 := by decide +kernel
theorem hdX6_handles : yX6_handles.cls = yX6_handles.cls ∧ yX6_handles.cls ≠ "java/lang/invoke/MethodHandle" ∧ yX6_handles.cls ≠ "java/lang/invoke/VarHandle" ∧ (parseMethodDescriptor yX6_handles.desc).map (fun d => d.parameters.length) = some 3 := by decide +kernel
theorem hdX6_keep : yX6_keep.cls = yX6_keep.cls ∧ yX6_keep.cls ≠ "java/lang/invoke/MethodHandle" ∧ yX6_keep.cls ≠ "java/lang/invoke/VarHandle" ∧ (parseMethodDescriptor yX6_keep.desc).map (fun d => d.parameters.length) = some 0 := by decide +kernel
theorem hdX6_restore : yX6_restore.cls = yX6_restore.cls ∧ yX6_restore.cls ≠ "java/lang/invoke/MethodHandle" ∧ yX6_restore.cls ≠ "java/lang/invoke/VarHandle" ∧ (parseMethodDescriptor yX6_restore.desc).map (fun d => d.parameters.length) = some 0 := by decide +kernel
theorem hdX7_init : yX7_init.cls = yX7_init.cls ∧ yX7_init.cls ≠ "java/lang/invoke/MethodHandle" ∧ yX7_init.cls ≠ "java/lang/invoke/VarHandle" ∧ (parseMethodDescriptor yX7_init.desc).map (fun d => d.parameters.length) = some 0 := by decide +kernel
theorem hdX7_handles : yX7_handles.cls = yX7_handles.cls ∧ yX7_handles.cls ≠ "java/lang/invoke/MethodHandle" ∧ yX7_handles.cls ≠ "java/lang/invoke/VarHandle" ∧ (parseMethodDescriptor yX7_handles.desc).map (fun d => d.parameters.length) = some 3 := by decide +kernel
theorem hdX7_keep : yX7_keep.cls = yX7_keep.cls ∧ yX7_keep.cls ≠ "java/lang/invoke/MethodHandle" ∧ yX7_keep.cls ≠ "java/lang/invoke/VarHandle" ∧ (parseMethodDescriptor yX7_keep.desc).map (fun d => d.parameters.length) = some 0 := by decide +kernel
theorem hdX7_restore : yX7_restore.cls = yX7_restore.cls ∧ yX7_restore.cls ≠ "java/lang/invoke/MethodHandle" ∧ yX7_restore.cls ≠ "java/lang/invoke/VarHandle" ∧ (parseMethodDescriptor yX7_restore.desc).map (fun d => d.parameters.length) = some 0 := by decide +kernel
theorem hdX7_amount : yX7_amount.cls = yX7_amount.cls ∧ yX7_amount.cls ≠ "java/lang/invoke/MethodHandle" ∧ yX7_amount.cls ≠ "java/lang/invoke/VarHandle" ∧ (parseMethodDescriptor yX7_amount.desc).map (fun d => d.parameters.length) = some 0 := by decide +kernel
theorem hdX8_init : yX8_init.cls = yX8_init.cls ∧ yX8_init.cls ≠ "java/lang/invoke/MethodHandle" ∧ yX8_init.cls ≠ "java/lang/invoke/VarHandle" ∧ (parseMethodDescriptor yX8_init.desc).map (fun d => d.parameters.length) = some 1 := by decide +kernel
theorem hdX8_consumer : yX8_consumer.cls = yX8_consumer.cls ∧ yX8_consumer.cls ≠ "java/lang/invoke/MethodHandle" ∧ yX8_consumer.cls ≠ "java/lang/invoke/VarHandle" ∧ (parseMethodDescriptor yX8_consumer.desc).map (fun d => d.parameters.length) = some 4 := by decide +kernel
theorem hdX8_claim : yX8_claim.cls = yX8_claim.cls ∧ yX8_claim.cls ≠ "java/lang/invoke/MethodHandle" ∧ yX8_claim.cls ≠ "java/lang/invoke/VarHandle" ∧ (parseMethodDescriptor yX8_claim.desc).map (fun d => d.parameters.length) = some 2 := by decide +kernel
theorem hdX8_publish : yX8_publish.cls = yX8_publish.cls ∧ yX8_publish.cls ≠ "java/lang/invoke/MethodHandle" ∧ yX8_publish.cls ≠ "java/lang/invoke/VarHandle" ∧ (parseMethodDescriptor yX8_publish.desc).map (fun d => d.parameters.length) = some 3 := by decide +kernel
theorem hdX8_run : yX8_run.cls = yX8_run.cls ∧ yX8_run.cls ≠ "java/lang/invoke/MethodHandle" ∧ yX8_run.cls ≠ "java/lang/invoke/VarHandle" ∧ (parseMethodDescriptor yX8_run.desc).map (fun d => d.parameters.length) = some 2 := by decide +kernel
theorem hdX8_place : yX8_place.cls = yX8_place.cls ∧ yX8_place.cls ≠ "java/lang/invoke/MethodHandle" ∧ yX8_place.cls ≠ "java/lang/invoke/VarHandle" ∧ (parseMethodDescriptor yX8_place.desc).map (fun d => d.parameters.length) = some 1 := by decide +kernel
theorem hdX8_total : yX8_total.cls = yX8_total.cls ∧ yX8_total.cls ≠ "java/lang/invoke/MethodHandle" ∧ yX8_total.cls ≠ "java/lang/invoke/VarHandle" ∧ (parseMethodDescriptor yX8_total.desc).map (fun d => d.parameters.length) = some 1 := by decide +kernel
theorem hdX8_level : yX8_level.cls = yX8_level.cls ∧ yX8_level.cls ≠ "java/lang/invoke/MethodHandle" ∧ yX8_level.cls ≠ "java/lang/invoke/VarHandle" ∧ (parseMethodDescriptor yX8_level.desc).map (fun d => d.parameters.length) = some 1 := by decide +kernel
theorem hdX8_mean : yX8_mean.cls = yX8_mean.cls ∧ yX8_mean.cls ≠ "java/lang/invoke/MethodHandle" ∧ yX8_mean.cls ≠ "java/lang/invoke/VarHandle" ∧ (parseMethodDescriptor yX8_mean.desc).map (fun d => d.parameters.length) = some 1 := by decide +kernel
theorem hdX8_octet : yX8_octet.cls = yX8_octet.cls ∧ yX8_octet.cls ≠ "java/lang/invoke/MethodHandle" ∧ yX8_octet.cls ≠ "java/lang/invoke/VarHandle" ∧ (parseMethodDescriptor yX8_octet.desc).map (fun d => d.parameters.length) = some 2 := by decide +kernel
theorem hdX8_tear : yX8_tear.cls = yX8_tear.cls ∧ yX8_tear.cls ≠ "java/lang/invoke/MethodHandle" ∧ yX8_tear.cls ≠ "java/lang/invoke/VarHandle" ∧ (parseMethodDescriptor yX8_tear.desc).map (fun d => d.parameters.length) = some 2 := by decide +kernel
theorem hdX8_replay : yX8_replay.cls = yX8_replay.cls ∧ yX8_replay.cls ≠ "java/lang/invoke/MethodHandle" ∧ yX8_replay.cls ≠ "java/lang/invoke/VarHandle" ∧ (parseMethodDescriptor yX8_replay.desc).map (fun d => d.parameters.length) = some 1 := by decide +kernel
theorem hdX8_replayed : yX8_replayed.cls = yX8_replayed.cls ∧ yX8_replayed.cls ≠ "java/lang/invoke/MethodHandle" ∧ yX8_replayed.cls ≠ "java/lang/invoke/VarHandle" ∧ (parseMethodDescriptor yX8_replayed.desc).map (fun d => d.parameters.length) = some 0 := by decide +kernel
theorem hdX8_count : yX8_count.cls = yX8_count.cls ∧ yX8_count.cls ≠ "java/lang/invoke/MethodHandle" ∧ yX8_count.cls ≠ "java/lang/invoke/VarHandle" ∧ (parseMethodDescriptor yX8_count.desc).map (fun d => d.parameters.length) = some 2 := by decide +kernel
theorem hdX8_state : yX8_state.cls = yX8_state.cls ∧ yX8_state.cls ≠ "java/lang/invoke/MethodHandle" ∧ yX8_state.cls ≠ "java/lang/invoke/VarHandle" ∧ (parseMethodDescriptor yX8_state.desc).map (fun d => d.parameters.length) = some 2 := by decide +kernel
theorem hdX8_isWithin : yX8_isWithin.cls = yX8_isWithin.cls ∧ yX8_isWithin.cls ≠ "java/lang/invoke/MethodHandle" ∧ yX8_isWithin.cls ≠ "java/lang/invoke/VarHandle" ∧ (parseMethodDescriptor yX8_isWithin.desc).map (fun d => d.parameters.length) = some 3 := by decide +kernel
theorem hdX8_existing : yX8_existing.cls = yX8_existing.cls ∧ yX8_existing.cls ≠ "java/lang/invoke/MethodHandle" ∧ yX8_existing.cls ≠ "java/lang/invoke/VarHandle" ∧ (parseMethodDescriptor yX8_existing.desc).map (fun d => d.parameters.length) = some 1 := by decide +kernel
theorem hdX8_journalOf : yX8_journalOf.cls = yX8_journalOf.cls ∧ yX8_journalOf.cls ≠ "java/lang/invoke/MethodHandle" ∧ yX8_journalOf.cls ≠ "java/lang/invoke/VarHandle" ∧ (parseMethodDescriptor yX8_journalOf.desc).map (fun d => d.parameters.length) = some 1 := by decide +kernel
theorem hdX8_mayJoin : yX8_mayJoin.cls = yX8_mayJoin.cls ∧ yX8_mayJoin.cls ≠ "java/lang/invoke/MethodHandle" ∧ yX8_mayJoin.cls ≠ "java/lang/invoke/VarHandle" ∧ (parseMethodDescriptor yX8_mayJoin.desc).map (fun d => d.parameters.length) = some 3 := by decide +kernel
theorem hdX8_poolToJoin : yX8_poolToJoin.cls = yX8_poolToJoin.cls ∧ yX8_poolToJoin.cls ≠ "java/lang/invoke/MethodHandle" ∧ yX8_poolToJoin.cls ≠ "java/lang/invoke/VarHandle" ∧ (parseMethodDescriptor yX8_poolToJoin.desc).map (fun d => d.parameters.length) = some 2 := by decide +kernel
theorem hdX8_add : yX8_add.cls = yX8_add.cls ∧ yX8_add.cls ≠ "java/lang/invoke/MethodHandle" ∧ yX8_add.cls ≠ "java/lang/invoke/VarHandle" ∧ (parseMethodDescriptor yX8_add.desc).map (fun d => d.parameters.length) = some 1 := by decide +kernel
theorem hdX8_newHandler : yX8_newHandler.cls = yX8_newHandler.cls ∧ yX8_newHandler.cls ≠ "java/lang/invoke/MethodHandle" ∧ yX8_newHandler.cls ≠ "java/lang/invoke/VarHandle" ∧ (parseMethodDescriptor yX8_newHandler.desc).map (fun d => d.parameters.length) = some 1 := by decide +kernel
theorem hdX8_lastInLine : yX8_lastInLine.cls = yX8_lastInLine.cls ∧ yX8_lastInLine.cls ≠ "java/lang/invoke/MethodHandle" ∧ yX8_lastInLine.cls ≠ "java/lang/invoke/VarHandle" ∧ (parseMethodDescriptor yX8_lastInLine.desc).map (fun d => d.parameters.length) = some 0 := by decide +kernel
theorem hdX8_leastPlace : yX8_leastPlace.cls = yX8_leastPlace.cls ∧ yX8_leastPlace.cls ≠ "java/lang/invoke/MethodHandle" ∧ yX8_leastPlace.cls ≠ "java/lang/invoke/VarHandle" ∧ (parseMethodDescriptor yX8_leastPlace.desc).map (fun d => d.parameters.length) = some 1 := by decide +kernel
theorem hdX9_init : yX9_init.cls = yX9_init.cls ∧ yX9_init.cls ≠ "java/lang/invoke/MethodHandle" ∧ yX9_init.cls ≠ "java/lang/invoke/VarHandle" ∧ (parseMethodDescriptor yX9_init.desc).map (fun d => d.parameters.length) = some 1 := by decide +kernel
theorem hdX9_thrown : yX9_thrown.cls = yX9_thrown.cls ∧ yX9_thrown.cls ≠ "java/lang/invoke/MethodHandle" ∧ yX9_thrown.cls ≠ "java/lang/invoke/VarHandle" ∧ (parseMethodDescriptor yX9_thrown.desc).map (fun d => d.parameters.length) = some 0 := by decide +kernel
theorem hdX9_fail : yX9_fail.cls = yX9_fail.cls ∧ yX9_fail.cls ≠ "java/lang/invoke/MethodHandle" ∧ yX9_fail.cls ≠ "java/lang/invoke/VarHandle" ∧ (parseMethodDescriptor yX9_fail.desc).map (fun d => d.parameters.length) = some 1 := by decide +kernel
theorem hdX9_within : yX9_within.cls = yX9_within.cls ∧ yX9_within.cls ≠ "java/lang/invoke/MethodHandle" ∧ yX9_within.cls ≠ "java/lang/invoke/VarHandle" ∧ (parseMethodDescriptor yX9_within.desc).map (fun d => d.parameters.length) = some 3 := by decide +kernel
theorem hdX9_firstOf : yX9_firstOf.cls = yX9_firstOf.cls ∧ yX9_firstOf.cls ≠ "java/lang/invoke/MethodHandle" ∧ yX9_firstOf.cls ≠ "java/lang/invoke/VarHandle" ∧ (parseMethodDescriptor yX9_firstOf.desc).map (fun d => d.parameters.length) = some 1 := by decide +kernel
theorem hdX9_consumer : yX9_consumer.cls = yX9_consumer.cls ∧ yX9_consumer.cls ≠ "java/lang/invoke/MethodHandle" ∧ yX9_consumer.cls ≠ "java/lang/invoke/VarHandle" ∧ (parseMethodDescriptor yX9_consumer.desc).map (fun d => d.parameters.length) = some 4 := by decide +kernel
theorem hdX9_placeOf : yX9_placeOf.cls = yX9_placeOf.cls ∧ yX9_placeOf.cls ≠ "java/lang/invoke/MethodHandle" ∧ yX9_placeOf.cls ≠ "java/lang/invoke/VarHandle" ∧ (parseMethodDescriptor yX9_placeOf.desc).map (fun d => d.parameters.length) = some 1 := by decide +kernel
theorem hdX9_bound : yX9_bound.cls = yX9_bound.cls ∧ yX9_bound.cls ≠ "java/lang/invoke/MethodHandle" ∧ yX9_bound.cls ≠ "java/lang/invoke/VarHandle" ∧ (parseMethodDescriptor yX9_bound.desc).map (fun d => d.parameters.length) = some 1 := by decide +kernel
theorem hdX9_claim : yX9_claim.cls = yX9_claim.cls ∧ yX9_claim.cls ≠ "java/lang/invoke/MethodHandle" ∧ yX9_claim.cls ≠ "java/lang/invoke/VarHandle" ∧ (parseMethodDescriptor yX9_claim.desc).map (fun d => d.parameters.length) = some 2 := by decide +kernel
theorem hdX9_publish : yX9_publish.cls = yX9_publish.cls ∧ yX9_publish.cls ≠ "java/lang/invoke/MethodHandle" ∧ yX9_publish.cls ≠ "java/lang/invoke/VarHandle" ∧ (parseMethodDescriptor yX9_publish.desc).map (fun d => d.parameters.length) = some 3 := by decide +kernel
theorem hdX9_put : yX9_put.cls = yX9_put.cls ∧ yX9_put.cls ≠ "java/lang/invoke/MethodHandle" ∧ yX9_put.cls ≠ "java/lang/invoke/VarHandle" ∧ (parseMethodDescriptor yX9_put.desc).map (fun d => d.parameters.length) = some 2 := by decide +kernel
theorem hdX9_record : yX9_record.cls = yX9_record.cls ∧ yX9_record.cls ≠ "java/lang/invoke/MethodHandle" ∧ yX9_record.cls ≠ "java/lang/invoke/VarHandle" ∧ (parseMethodDescriptor yX9_record.desc).map (fun d => d.parameters.length) = some 2 := by decide +kernel
theorem hdX9_handles : yX9_handles.cls = yX9_handles.cls ∧ yX9_handles.cls ≠ "java/lang/invoke/MethodHandle" ∧ yX9_handles.cls ≠ "java/lang/invoke/VarHandle" ∧ (parseMethodDescriptor yX9_handles.desc).map (fun d => d.parameters.length) = some 2 := by decide +kernel
theorem hdX9_answer : yX9_answer.cls = yX9_answer.cls ∧ yX9_answer.cls ≠ "java/lang/invoke/MethodHandle" ∧ yX9_answer.cls ≠ "java/lang/invoke/VarHandle" ∧ (parseMethodDescriptor yX9_answer.desc).map (fun d => d.parameters.length) = some 2 := by decide +kernel
theorem hdX9_batch : yX9_batch.cls = yX9_batch.cls ∧ yX9_batch.cls ≠ "java/lang/invoke/MethodHandle" ∧ yX9_batch.cls ≠ "java/lang/invoke/VarHandle" ∧ (parseMethodDescriptor yX9_batch.desc).map (fun d => d.parameters.length) = some 2 := by decide +kernel
theorem hdX9_work : yX9_work.cls = yX9_work.cls ∧ yX9_work.cls ≠ "java/lang/invoke/MethodHandle" ∧ yX9_work.cls ≠ "java/lang/invoke/VarHandle" ∧ (parseMethodDescriptor yX9_work.desc).map (fun d => d.parameters.length) = some 2 := by decide +kernel
theorem hdX9_none : yX9_none.cls = yX9_none.cls ∧ yX9_none.cls ≠ "java/lang/invoke/MethodHandle" ∧ yX9_none.cls ≠ "java/lang/invoke/VarHandle" ∧ (parseMethodDescriptor yX9_none.desc).map (fun d => d.parameters.length) = some 1 := by decide +kernel
theorem hdX9_run : yX9_run.cls = yX9_run.cls ∧ yX9_run.cls ≠ "java/lang/invoke/MethodHandle" ∧ yX9_run.cls ≠ "java/lang/invoke/VarHandle" ∧ (parseMethodDescriptor yX9_run.desc).map (fun d => d.parameters.length) = some 2 := by decide +kernel
theorem hdX9_place : yX9_place.cls = yX9_place.cls ∧ yX9_place.cls ≠ "java/lang/invoke/MethodHandle" ∧ yX9_place.cls ≠ "java/lang/invoke/VarHandle" ∧ (parseMethodDescriptor yX9_place.desc).map (fun d => d.parameters.length) = some 1 := by decide +kernel
theorem hdX9_total : yX9_total.cls = yX9_total.cls ∧ yX9_total.cls ≠ "java/lang/invoke/MethodHandle" ∧ yX9_total.cls ≠ "java/lang/invoke/VarHandle" ∧ (parseMethodDescriptor yX9_total.desc).map (fun d => d.parameters.length) = some 1 := by decide +kernel
theorem hdX9_level : yX9_level.cls = yX9_level.cls ∧ yX9_level.cls ≠ "java/lang/invoke/MethodHandle" ∧ yX9_level.cls ≠ "java/lang/invoke/VarHandle" ∧ (parseMethodDescriptor yX9_level.desc).map (fun d => d.parameters.length) = some 1 := by decide +kernel
theorem hdX9_mean : yX9_mean.cls = yX9_mean.cls ∧ yX9_mean.cls ≠ "java/lang/invoke/MethodHandle" ∧ yX9_mean.cls ≠ "java/lang/invoke/VarHandle" ∧ (parseMethodDescriptor yX9_mean.desc).map (fun d => d.parameters.length) = some 1 := by decide +kernel
theorem hdX9_noJournal : yX9_noJournal.cls = yX9_noJournal.cls ∧ yX9_noJournal.cls ≠ "java/lang/invoke/MethodHandle" ∧ yX9_noJournal.cls ≠ "java/lang/invoke/VarHandle" ∧ (parseMethodDescriptor yX9_noJournal.desc).map (fun d => d.parameters.length) = some 1 := by decide +kernel
theorem hdX9_octet : yX9_octet.cls = yX9_octet.cls ∧ yX9_octet.cls ≠ "java/lang/invoke/MethodHandle" ∧ yX9_octet.cls ≠ "java/lang/invoke/VarHandle" ∧ (parseMethodDescriptor yX9_octet.desc).map (fun d => d.parameters.length) = some 2 := by decide +kernel
theorem hdX9_tear : yX9_tear.cls = yX9_tear.cls ∧ yX9_tear.cls ≠ "java/lang/invoke/MethodHandle" ∧ yX9_tear.cls ≠ "java/lang/invoke/VarHandle" ∧ (parseMethodDescriptor yX9_tear.desc).map (fun d => d.parameters.length) = some 2 := by decide +kernel
theorem hdX9_whole : yX9_whole.cls = yX9_whole.cls ∧ yX9_whole.cls ≠ "java/lang/invoke/MethodHandle" ∧ yX9_whole.cls ≠ "java/lang/invoke/VarHandle" ∧ (parseMethodDescriptor yX9_whole.desc).map (fun d => d.parameters.length) = some 1 := by decide +kernel
theorem hdX9_replay : yX9_replay.cls = yX9_replay.cls ∧ yX9_replay.cls ≠ "java/lang/invoke/MethodHandle" ∧ yX9_replay.cls ≠ "java/lang/invoke/VarHandle" ∧ (parseMethodDescriptor yX9_replay.desc).map (fun d => d.parameters.length) = some 1 := by decide +kernel
theorem hdX9_replayed : yX9_replayed.cls = yX9_replayed.cls ∧ yX9_replayed.cls ≠ "java/lang/invoke/MethodHandle" ∧ yX9_replayed.cls ≠ "java/lang/invoke/VarHandle" ∧ (parseMethodDescriptor yX9_replayed.desc).map (fun d => d.parameters.length) = some 0 := by decide +kernel
theorem hdX9_count : yX9_count.cls = yX9_count.cls ∧ yX9_count.cls ≠ "java/lang/invoke/MethodHandle" ∧ yX9_count.cls ≠ "java/lang/invoke/VarHandle" ∧ (parseMethodDescriptor yX9_count.desc).map (fun d => d.parameters.length) = some 2 := by decide +kernel
theorem hdX9_state : yX9_state.cls = yX9_state.cls ∧ yX9_state.cls ≠ "java/lang/invoke/MethodHandle" ∧ yX9_state.cls ≠ "java/lang/invoke/VarHandle" ∧ (parseMethodDescriptor yX9_state.desc).map (fun d => d.parameters.length) = some 2 := by decide +kernel
theorem hdL_cell : yL_cell.cls = yL_cell.cls ∧ yL_cell.cls ≠ "java/lang/invoke/MethodHandle" ∧ yL_cell.cls ≠ "java/lang/invoke/VarHandle" ∧ (parseMethodDescriptor yL_cell.desc).map (fun d => d.parameters.length) = some 2 := by decide +kernel
theorem hdL_consumer : yL_consumer.cls = yL_consumer.cls ∧ yL_consumer.cls ≠ "java/lang/invoke/MethodHandle" ∧ yL_consumer.cls ≠ "java/lang/invoke/VarHandle" ∧ (parseMethodDescriptor yL_consumer.desc).map (fun d => d.parameters.length) = some 6 := by decide +kernel
theorem hdL_claim : yL_claim.cls = yL_claim.cls ∧ yL_claim.cls ≠ "java/lang/invoke/MethodHandle" ∧ yL_claim.cls ≠ "java/lang/invoke/VarHandle" ∧ (parseMethodDescriptor yL_claim.desc).map (fun d => d.parameters.length) = some 4 := by decide +kernel
theorem hdL_publish : yL_publish.cls = yL_publish.cls ∧ yL_publish.cls ≠ "java/lang/invoke/MethodHandle" ∧ yL_publish.cls ≠ "java/lang/invoke/VarHandle" ∧ (parseMethodDescriptor yL_publish.desc).map (fun d => d.parameters.length) = some 5 := by decide +kernel
theorem hdL_run : yL_run.cls = yL_run.cls ∧ yL_run.cls ≠ "java/lang/invoke/MethodHandle" ∧ yL_run.cls ≠ "java/lang/invoke/VarHandle" ∧ (parseMethodDescriptor yL_run.desc).map (fun d => d.parameters.length) = some 4 := by decide +kernel
theorem hdL_place : yL_place.cls = yL_place.cls ∧ yL_place.cls ≠ "java/lang/invoke/MethodHandle" ∧ yL_place.cls ≠ "java/lang/invoke/VarHandle" ∧ (parseMethodDescriptor yL_place.desc).map (fun d => d.parameters.length) = some 3 := by decide +kernel
theorem hdL_total : yL_total.cls = yL_total.cls ∧ yL_total.cls ≠ "java/lang/invoke/MethodHandle" ∧ yL_total.cls ≠ "java/lang/invoke/VarHandle" ∧ (parseMethodDescriptor yL_total.desc).map (fun d => d.parameters.length) = some 3 := by decide +kernel
theorem hdL_level : yL_level.cls = yL_level.cls ∧ yL_level.cls ≠ "java/lang/invoke/MethodHandle" ∧ yL_level.cls ≠ "java/lang/invoke/VarHandle" ∧ (parseMethodDescriptor yL_level.desc).map (fun d => d.parameters.length) = some 3 := by decide +kernel
theorem hdL_mean : yL_mean.cls = yL_mean.cls ∧ yL_mean.cls ≠ "java/lang/invoke/MethodHandle" ∧ yL_mean.cls ≠ "java/lang/invoke/VarHandle" ∧ (parseMethodDescriptor yL_mean.desc).map (fun d => d.parameters.length) = some 3 := by decide +kernel
theorem hdL_octet : yL_octet.cls = yL_octet.cls ∧ yL_octet.cls ≠ "java/lang/invoke/MethodHandle" ∧ yL_octet.cls ≠ "java/lang/invoke/VarHandle" ∧ (parseMethodDescriptor yL_octet.desc).map (fun d => d.parameters.length) = some 4 := by decide +kernel
theorem hdL_tear : yL_tear.cls = yL_tear.cls ∧ yL_tear.cls ≠ "java/lang/invoke/MethodHandle" ∧ yL_tear.cls ≠ "java/lang/invoke/VarHandle" ∧ (parseMethodDescriptor yL_tear.desc).map (fun d => d.parameters.length) = some 4 := by decide +kernel
theorem hdL_replay : yL_replay.cls = yL_replay.cls ∧ yL_replay.cls ≠ "java/lang/invoke/MethodHandle" ∧ yL_replay.cls ≠ "java/lang/invoke/VarHandle" ∧ (parseMethodDescriptor yL_replay.desc).map (fun d => d.parameters.length) = some 3 := by decide +kernel
theorem hdL_count : yL_count.cls = yL_count.cls ∧ yL_count.cls ≠ "java/lang/invoke/MethodHandle" ∧ yL_count.cls ≠ "java/lang/invoke/VarHandle" ∧ (parseMethodDescriptor yL_count.desc).map (fun d => d.parameters.length) = some 4 := by decide +kernel
theorem hdL_state : yL_state.cls = yL_state.cls ∧ yL_state.cls ≠ "java/lang/invoke/MethodHandle" ∧ yL_state.cls ≠ "java/lang/invoke/VarHandle" ∧ (parseMethodDescriptor yL_state.desc).map (fun d => d.parameters.length) = some 4 := by decide +kernel
def bw (v lo hi : Int32) : Int32 := if lo ≤ v ∧ v ≤ hi then 1 else 0
theorem bw_1 {v lo hi : Int32} (h1 : ¬ v < lo) (h2 : ¬ hi < v) : bw v lo hi = 1 := if_pos ⟨Int32.not_lt.mp h1, Int32.not_lt.mp h2⟩
theorem bw_l {v lo hi : Int32} (h1 : v < lo) : bw v lo hi = 0 := if_neg fun h => Int32.not_lt.mpr h.1 h1
theorem bw_h {v lo hi : Int32} (h1 : hi < v) : bw v lo hi = 0 := if_neg fun h => Int32.not_lt.mpr h.2 h1
abbrev rmX9_thrown : Room := { frames := 0, cells := 0, slots := 0, locals := 0 }
abbrev rmX9_fail : Room := { frames := 0, cells := 0, slots := 0, locals := 0 }
abbrev rmX9_within : Room := { frames := 0, cells := 0, slots := 0, locals := 0 }
abbrev rmX8_isWithin : Room := { frames := 0, cells := 0, slots := 0, locals := 0 }
set_option maxRecDepth 100000 in
theorem k_thrown {l : Launch} {s0 : State} {D : va_G} {cA : Nat → ClassId} {ad : Nat → Nat} (hG : cx_G l s0 D cA) (P : MS) : MC l s0 D cA ad yX9_thrown cX9_thrown 1 (some .int) rmX9_thrown [] P (some (.int (qS P 0))) P := by
  refine Ct.of (cA := cA) hG (by decide +kernel) (Nat.le_of_ble_eq_true rfl) ?_
  intro p e s m below meth c A C hnm hP hD hS ls hl
  have hx := cx_x C
  have hb := cx_b C
  have hl : lv_has ls 1 [(0, .ref (ad 0))] := hl
  refine lv_aload_n hx hb dX9_thrown_0 rfl (lv_at hl 0 rfl) ?_
  refine gm_0 (v := qS P 0) C hP rfl tm_666 dX9_thrown_1 ?_
  exact ct_iret C hS hP hD (⟨rfl, rfl⟩) (Nat.le_of_ble_eq_true rfl) (Nat.le_of_ble_eq_true rfl) dX9_thrown_4
set_option maxRecDepth 100000 in
theorem k_fail {l : Launch} {s0 : State} {D : va_G} {cA : Nat → ClassId} {ad : Nat → Nat} (hG : cx_G l s0 D cA) (P : MS) (k : Int32) : MC l s0 D cA ad yX9_fail cX9_fail 2 (some .int) rmX9_fail [.int k] P (some (.int 0)) (sS P 0 k) := by
  refine Ct.of (cA := cA) hG (by decide +kernel) (Nat.le_of_ble_eq_true rfl) ?_
  intro p e s m below meth c A C hnm hP hD hS ls hl
  have hx := cx_x C
  have hb := cx_b C
  have hl : lv_has ls 2 [(0, .ref (ad 0)), (1, .int k)] := hl
  refine lv_aload_n hx hb dX9_fail_0 rfl (lv_at hl 0 rfl) ?_
  refine lv_iload_n hx hb dX9_fail_1 rfl (lv_at hl 1 rfl) ?_
  refine pm_0 (v := k) C hP hD hS tm_666 dX9_fail_2 (fun H locs hP hD hS => ?_)
  refine lv_iconst (v := 0) hx hb dX9_fail_5 (by decide) ?_
  exact ct_iret C hS hP hD (⟨rfl, rfl⟩) (Nat.le_of_ble_eq_true rfl) (Nat.le_of_ble_eq_true rfl) dX9_fail_6
set_option maxRecDepth 100000 in
theorem k_within {l : Launch} {s0 : State} {D : va_G} {cA : Nat → ClassId} {ad : Nat → Nat} (hG : cx_G l s0 D cA) (v lo hi : Int32) : Ct l s0 D yX9_within (.code yX9_within cX9_within 3 (some .boolean) :: TB) rmX9_within [.int v, .int lo, .int hi] [] (fun rv rw => rv = some (.int (bw v lo hi)) ∧ rw = []) := by
  refine Ct.of (cA := cA) hG (by decide +kernel) (Nat.le_of_ble_eq_true rfl) ?_
  intro p e s m below meth c A C hnm hP hD hS ls hl
  have hx := cx_x C
  have hb := cx_b C
  have hl : lv_has ls 3 [(0, .int v), (1, .int lo), (2, .int hi)] := hl
  refine lv_iload_n hx hb dX9_within_0 rfl (lv_at hl 0 rfl) ?_
  refine lv_iload_n hx hb dX9_within_1 rfl (lv_at hl 1 rfl) ?_
  refine lv_icmp_lt (tgt := 14) hx hb dX9_within_2 (by decide) (fun c1 => ?_) (fun c1 => ?_)
  · refine lv_iconst (v := 0) hx hb dX9_within_14 (by decide) ?_
    exact ct_zret C (by first | rfl | decide) hS hP hD (⟨by first | rw [bw_l c1] | rw [bw_h c2], rfl⟩) (Nat.le_of_ble_eq_true rfl) (Nat.le_of_ble_eq_true rfl) dX9_within_15
  refine lv_iload_n hx hb dX9_within_5 rfl (lv_at hl 0 rfl) ?_
  refine lv_iload_n hx hb dX9_within_6 rfl (lv_at hl 2 rfl) ?_
  refine lv_icmp_gt (tgt := 14) hx hb dX9_within_7 (by decide) (fun c2 => ?_) (fun c2 => ?_)
  · refine lv_iconst (v := 0) hx hb dX9_within_14 (by decide) ?_
    exact ct_zret C (by first | rfl | decide) hS hP hD (⟨by first | rw [bw_l c1] | rw [bw_h c2], rfl⟩) (Nat.le_of_ble_eq_true rfl) (Nat.le_of_ble_eq_true rfl) dX9_within_15
  refine lv_iconst (v := 1) hx hb dX9_within_10 (by decide) ?_
  refine lv_goto (tgt := 15) hx hb dX9_within_11 (by decide) ?_
  exact ct_zret C (by first | rfl | decide) hS hP hD (⟨by rw [bw_1 c1 c2], rfl⟩) (Nat.le_of_ble_eq_true rfl) (Nat.le_of_ble_eq_true rfl) dX9_within_15
set_option maxRecDepth 100000 in
theorem k_isWithin {l : Launch} {s0 : State} {D : va_G} {cA : Nat → ClassId} {ad : Nat → Nat} (hG : cx_G l s0 D cA) (v lo hi : Int32) : Ct l s0 D yX8_isWithin (.code yX8_isWithin cX8_isWithin 3 (some .boolean) :: TB) rmX8_isWithin [.int v, .int lo, .int hi] [] (fun rv rw => rv = some (.int (bw v lo hi)) ∧ rw = []) := by
  refine Ct.of (cA := cA) hG (by decide +kernel) (Nat.le_of_ble_eq_true rfl) ?_
  intro p e s m below meth c A C hnm hP hD hS ls hl
  have hx := cx_x C
  have hb := cx_b C
  have hl : lv_has ls 3 [(0, .int v), (1, .int lo), (2, .int hi)] := hl
  refine lv_iload_n hx hb dX8_isWithin_0 rfl (lv_at hl 1 rfl) ?_
  refine lv_iload_n hx hb dX8_isWithin_1 rfl (lv_at hl 0 rfl) ?_
  refine lv_icmp_gt (tgt := 14) hx hb dX8_isWithin_2 (by decide) (fun c1 => ?_) (fun c1 => ?_)
  · refine lv_iconst (v := 0) hx hb dX8_isWithin_14 (by decide) ?_
    exact ct_zret C (by first | rfl | decide) hS hP hD (⟨by first | rw [bw_l c1] | rw [bw_h c2], rfl⟩) (Nat.le_of_ble_eq_true rfl) (Nat.le_of_ble_eq_true rfl) dX8_isWithin_15
  refine lv_iload_n hx hb dX8_isWithin_5 rfl (lv_at hl 0 rfl) ?_
  refine lv_iload_n hx hb dX8_isWithin_6 rfl (lv_at hl 2 rfl) ?_
  refine lv_icmp_gt (tgt := 14) hx hb dX8_isWithin_7 (by decide) (fun c2 => ?_) (fun c2 => ?_)
  · refine lv_iconst (v := 0) hx hb dX8_isWithin_14 (by decide) ?_
    exact ct_zret C (by first | rfl | decide) hS hP hD (⟨by first | rw [bw_l c1] | rw [bw_h c2], rfl⟩) (Nat.le_of_ble_eq_true rfl) (Nat.le_of_ble_eq_true rfl) dX8_isWithin_15
  refine lv_iconst (v := 1) hx hb dX8_isWithin_10 (by decide) ?_
  refine lv_goto (tgt := 15) hx hb dX8_isWithin_11 (by decide) ?_
  exact ct_zret C (by first | rfl | decide) hS hP hD (⟨by rw [bw_1 c1 c2], rfl⟩) (Nat.le_of_ble_eq_true rfl) (Nat.le_of_ble_eq_true rfl) dX8_isWithin_15
