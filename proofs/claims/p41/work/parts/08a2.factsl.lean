abbrev mL_cell : gMt := (yL_cell, cL_cell, 2, (Option.some Jvm.ClassFile.FieldType.int))
set_option maxRecDepth 100000 in
theorem mtL_cell : gMth mL_cell 2 := ⟨g_mem 340 rfl, g_mem 0 (by decide +kernel), ⟨by decide +kernel, by decide +kernel⟩, by decide +kernel, by decide⟩
theorem msL_cell : Cond.static mL_cell.1 ∈ lw_tbl := g_mem 339 (by decide +kernel)
abbrev mL_read : gMt := (yL_read, cL_read, 3, (Option.some Jvm.ClassFile.FieldType.int))
set_option maxRecDepth 100000 in
theorem mtL_read : gMth mL_read 2 := ⟨g_mem 1308 rfl, g_mem 0 (by decide +kernel), ⟨by decide +kernel, by decide +kernel⟩, by decide +kernel, by decide⟩
theorem msL_read : Cond.static mL_read.1 ∈ lw_tbl := g_mem 1307 (by decide +kernel)
abbrev mL_drawn : gMt := (yL_drawn, cL_drawn, 12, (Option.some (Jvm.ClassFile.FieldType.object "ScrollChecks")))
set_option maxRecDepth 100000 in
theorem mtL_drawn : gMth mL_drawn 1 := ⟨g_mem 154 rfl, g_mem 0 (by decide +kernel), ⟨by decide +kernel, by decide +kernel⟩, by decide +kernel, by decide⟩
theorem msL_drawn : Cond.static mL_drawn.1 ∈ lw_tbl := g_mem 153 (by decide +kernel)
abbrev mL_now : gMt := (yL_now, cL_now, 7, (Option.some Jvm.ClassFile.FieldType.int))
set_option maxRecDepth 100000 in
theorem mtL_now : gMth mL_now 4 := ⟨g_mem 716 rfl, g_mem 0 (by decide +kernel), ⟨by decide +kernel, by decide +kernel⟩, by decide +kernel, by decide⟩
theorem msL_now : Cond.static mL_now.1 ∈ lw_tbl := g_mem 715 (by decide +kernel)
abbrev mL_isSmudged : gMt := (yL_isSmudged, cL_isSmudged, 5, (Option.some Jvm.ClassFile.FieldType.boolean))
set_option maxRecDepth 100000 in
theorem mtL_isSmudged : gMth mL_isSmudged 4 := ⟨g_mem 749 rfl, g_mem 0 (by decide +kernel), ⟨by decide +kernel, by decide +kernel⟩, by decide +kernel, by decide⟩
theorem msL_isSmudged : Cond.static mL_isSmudged.1 ∈ lw_tbl := g_mem 748 (by decide +kernel)
abbrev mL_isWrong : gMt := (yL_isWrong, cL_isWrong, 5, (Option.some Jvm.ClassFile.FieldType.boolean))
set_option maxRecDepth 100000 in
theorem mtL_isWrong : gMth mL_isWrong 4 := ⟨g_mem 733 rfl, g_mem 0 (by decide +kernel), ⟨by decide +kernel, by decide +kernel⟩, by decide +kernel, by decide⟩
theorem msL_isWrong : Cond.static mL_isWrong.1 ∈ lw_tbl := g_mem 732 (by decide +kernel)
abbrev mL_sums : gMt := (yL_sums, cL_sums, 16, (Option.some Jvm.ClassFile.FieldType.boolean))
set_option maxRecDepth 100000 in
theorem mtL_sums : gMth mL_sums 2 := ⟨g_mem 692 rfl, g_mem 0 (by decide +kernel), ⟨by decide +kernel, by decide +kernel⟩, by decide +kernel, by decide⟩
theorem msL_sums : Cond.static mL_sums.1 ∈ lw_tbl := g_mem 691 (by decide +kernel)
abbrev mL_told : gMt := (yL_told, cL_told, 7, (Option.some Jvm.ClassFile.FieldType.boolean))
set_option maxRecDepth 100000 in
theorem mtL_told : gMth mL_told 2 := ⟨g_mem 887 rfl, g_mem 0 (by decide +kernel), ⟨by decide +kernel, by decide +kernel⟩, by decide +kernel, by decide⟩
theorem msL_told : Cond.static mL_told.1 ∈ lw_tbl := g_mem 886 (by decide +kernel)
abbrev mL_fills : gMt := (yL_fills, cL_fills, 10, (Option.some Jvm.ClassFile.FieldType.boolean))
set_option maxRecDepth 100000 in
theorem mtL_fills : gMth mL_fills 2 := ⟨g_mem 1202 rfl, g_mem 0 (by decide +kernel), ⟨by decide +kernel, by decide +kernel⟩, by decide +kernel, by decide⟩
theorem msL_fills : Cond.static mL_fills.1 ∈ lw_tbl := g_mem 1201 (by decide +kernel)
abbrev mL_accounts : gMt := (yL_accounts, cL_accounts, 9, (Option.some Jvm.ClassFile.FieldType.boolean))
set_option maxRecDepth 100000 in
theorem mtL_accounts : gMth mL_accounts 1 := ⟨g_mem 1258 rfl, g_mem 0 (by decide +kernel), ⟨by decide +kernel, by decide +kernel⟩, by decide +kernel, by decide⟩
theorem msL_accounts : Cond.static mL_accounts.1 ∈ lw_tbl := g_mem 1257 (by decide +kernel)
abbrev mL_ranks : gMt := (yL_ranks, cL_ranks, 8, (Option.some Jvm.ClassFile.FieldType.boolean))
set_option maxRecDepth 100000 in
theorem mtL_ranks : gMth mL_ranks 1 := ⟨g_mem 1261 rfl, g_mem 0 (by decide +kernel), ⟨by decide +kernel, by decide +kernel⟩, by decide +kernel, by decide⟩
theorem msL_ranks : Cond.static mL_ranks.1 ∈ lw_tbl := g_mem 1260 (by decide +kernel)
abbrev mL_sum : gMt := (yL_sum, cL_sum, 6, (Option.some Jvm.ClassFile.FieldType.long))
set_option maxRecDepth 100000 in
theorem mtL_sum : gMth mL_sum 1 := ⟨g_mem 1296 rfl, g_mem 0 (by decide +kernel), ⟨by decide +kernel, by decide +kernel⟩, by decide +kernel, by decide⟩
theorem msL_sum : Cond.static mL_sum.1 ∈ lw_tbl := g_mem 1295 (by decide +kernel)
abbrev mL_undone : gMt := (yL_undone, cL_undone, 10, (Option.some Jvm.ClassFile.FieldType.boolean))
set_option maxRecDepth 100000 in
theorem mtL_undone : gMth mL_undone 2 := ⟨g_mem 1293 rfl, g_mem 0 (by decide +kernel), ⟨by decide +kernel, by decide +kernel⟩, by decide +kernel, by decide⟩
theorem msL_undone : Cond.static mL_undone.1 ∈ lw_tbl := g_mem 1292 (by decide +kernel)
