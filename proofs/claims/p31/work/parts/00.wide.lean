/-! names of the rest of the library: the claim is read over the whole of it from its first part on -/
theorem wd_1 : @Jvm.Free.Multi.outerC = @Jvm.Free.Multi.outerC := rfl
theorem wd_2 : @Jvm.Free.Multi.fill = @Jvm.Free.Multi.fill := rfl
theorem wd_3 : @Jvm.Free.Multi.fill_facts = @Jvm.Free.Multi.fill_facts := rfl
theorem wd_4 : @Jvm.Free.Multi.fill_old = @Jvm.Free.Multi.fill_old := rfl
theorem wd_5 : @Jvm.Free.Multi.fill_inner = @Jvm.Free.Multi.fill_inner := rfl
