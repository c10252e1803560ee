theorem dL_cell_0 : decode cL_cell 0 = .ok (.iload_n 1, 1) := by decide +kernel
theorem dL_cell_1 : decode cL_cell 1 = .ok (.aload_n 0, 1) := by decide +kernel
theorem dL_cell_2 : decode cL_cell 2 = .ok (.arraylength, 1) := by decide +kernel
theorem dL_cell_3 : decode cL_cell 3 = .ok (.if_icmp .ge 9, 3) := by decide +kernel
theorem dL_cell_6 : decode cL_cell 6 = .ok (.aload_n 0, 1) := by decide +kernel
theorem dL_cell_7 : decode cL_cell 7 = .ok (.iload_n 1, 1) := by decide +kernel
theorem dL_cell_8 : decode cL_cell 8 = .ok (.iaload, 1) := by decide +kernel
theorem dL_cell_9 : decode cL_cell 9 = .ok (.goto 7, 3) := by decide +kernel
theorem dL_cell_12 : decode cL_cell 12 = .ok (.ldc 7, 2) := by decide +kernel
theorem dL_cell_14 : decode cL_cell 14 = .ok (.iload_n 1, 1) := by decide +kernel
theorem dL_cell_15 : decode cL_cell 15 = .ok (.imul, 1) := by decide +kernel
theorem dL_cell_16 : decode cL_cell 16 = .ok (.ireturn, 1) := by decide +kernel
theorem dL_scroll_0 : decode cL_scroll 0 = .ok (.aload_n 0, 1) := by decide +kernel
theorem dL_scroll_1 : decode cL_scroll 1 = .ok (.iload_n 1, 1) := by decide +kernel
theorem dL_scroll_2 : decode cL_scroll 2 = .ok (.iload_n 2, 1) := by decide +kernel
theorem dL_scroll_3 : decode cL_scroll 3 = .ok (.invokevirtual 8, 3) := by decide +kernel
theorem dL_scroll_6 : decode cL_scroll 6 = .ok (.ireturn, 1) := by decide +kernel
theorem dL_scroll_7 : decode cL_scroll 7 = .ok (.astore_n 3, 1) := by decide +kernel
theorem dL_scroll_8 : decode cL_scroll 8 = .ok (.iconst (-1), 1) := by decide +kernel
theorem dL_scroll_9 : decode cL_scroll 9 = .ok (.ireturn, 1) := by decide +kernel
theorem dL_scroll_10 : decode cL_scroll 10 = .ok (.astore_n 3, 1) := by decide +kernel
theorem dL_scroll_11 : decode cL_scroll 11 = .ok (.bipush (-2), 2) := by decide +kernel
theorem dL_scroll_13 : decode cL_scroll 13 = .ok (.ireturn, 1) := by decide +kernel
theorem dL_of_0 : decode cL_of 0 = .ok (.aload_n 0, 1) := by decide +kernel
theorem dL_of_1 : decode cL_of 1 = .ok (.iload_n 1, 1) := by decide +kernel
theorem dL_of_2 : decode cL_of 2 = .ok (.iload_n 2, 1) := by decide +kernel
theorem dL_of_3 : decode cL_of 3 = .ok (.invokevirtual 18, 3) := by decide +kernel
theorem dL_of_6 : decode cL_of 6 = .ok (.ireturn, 1) := by decide +kernel
theorem dL_of_7 : decode cL_of 7 = .ok (.astore_n 3, 1) := by decide +kernel
theorem dL_of_8 : decode cL_of 8 = .ok (.bipush (-11), 2) := by decide +kernel
theorem dL_of_10 : decode cL_of 10 = .ok (.ireturn, 1) := by decide +kernel
theorem dL_of_11 : decode cL_of 11 = .ok (.astore_n 3, 1) := by decide +kernel
theorem dL_of_12 : decode cL_of 12 = .ok (.bipush (-12), 2) := by decide +kernel
theorem dL_of_14 : decode cL_of 14 = .ok (.ireturn, 1) := by decide +kernel
theorem dL_write_0 : decode cL_write 0 = .ok (.aload_n 0, 1) := by decide +kernel
theorem dL_write_1 : decode cL_write 1 = .ok (.iload_n 1, 1) := by decide +kernel
theorem dL_write_2 : decode cL_write 2 = .ok (.iload_n 2, 1) := by decide +kernel
theorem dL_write_3 : decode cL_write 3 = .ok (.iload_n 3, 1) := by decide +kernel
theorem dL_write_4 : decode cL_write 4 = .ok (.iload 4, 2) := by decide +kernel
theorem dL_write_6 : decode cL_write 6 = .ok (.invokevirtual 23, 3) := by decide +kernel
theorem dL_write_9 : decode cL_write 9 = .ok (.ireturn, 1) := by decide +kernel
theorem dL_write_10 : decode cL_write 10 = .ok (.astore 5, 2) := by decide +kernel
theorem dL_write_12 : decode cL_write 12 = .ok (.bipush (-11), 2) := by decide +kernel
theorem dL_write_14 : decode cL_write 14 = .ok (.ireturn, 1) := by decide +kernel
theorem dL_write_15 : decode cL_write 15 = .ok (.astore 5, 2) := by decide +kernel
theorem dL_write_17 : decode cL_write 17 = .ok (.bipush (-12), 2) := by decide +kernel
theorem dL_write_19 : decode cL_write 19 = .ok (.ireturn, 1) := by decide +kernel
theorem dL_sign_0 : decode cL_sign 0 = .ok (.aload_n 0, 1) := by decide +kernel
theorem dL_sign_1 : decode cL_sign 1 = .ok (.iload_n 1, 1) := by decide +kernel
theorem dL_sign_2 : decode cL_sign 2 = .ok (.iload_n 2, 1) := by decide +kernel
theorem dL_sign_3 : decode cL_sign 3 = .ok (.iload_n 3, 1) := by decide +kernel
theorem dL_sign_4 : decode cL_sign 4 = .ok (.invokevirtual 27, 3) := by decide +kernel
theorem dL_sign_7 : decode cL_sign 7 = .ok (.ireturn, 1) := by decide +kernel
theorem dL_sign_8 : decode cL_sign 8 = .ok (.astore 4, 2) := by decide +kernel
theorem dL_sign_10 : decode cL_sign 10 = .ok (.bipush (-11), 2) := by decide +kernel
theorem dL_sign_12 : decode cL_sign 12 = .ok (.ireturn, 1) := by decide +kernel
theorem dL_seal_0 : decode cL_seal 0 = .ok (.aload_n 0, 1) := by decide +kernel
theorem dL_seal_1 : decode cL_seal 1 = .ok (.iload_n 1, 1) := by decide +kernel
theorem dL_seal_2 : decode cL_seal 2 = .ok (.invokevirtual 31, 3) := by decide +kernel
theorem dL_seal_5 : decode cL_seal 5 = .ok (.ireturn, 1) := by decide +kernel
theorem dL_seal_6 : decode cL_seal 6 = .ok (.astore_n 2, 1) := by decide +kernel
theorem dL_seal_7 : decode cL_seal 7 = .ok (.iconst (-1), 1) := by decide +kernel
theorem dL_seal_8 : decode cL_seal 8 = .ok (.ireturn, 1) := by decide +kernel
theorem dL_seal_9 : decode cL_seal 9 = .ok (.astore_n 2, 1) := by decide +kernel
theorem dL_seal_10 : decode cL_seal 10 = .ok (.bipush (-2), 2) := by decide +kernel
theorem dL_seal_12 : decode cL_seal 12 = .ok (.ireturn, 1) := by decide +kernel
theorem dL_copy_0 : decode cL_copy 0 = .ok (.aload_n 0, 1) := by decide +kernel
theorem dL_copy_1 : decode cL_copy 1 = .ok (.iload_n 1, 1) := by decide +kernel
theorem dL_copy_2 : decode cL_copy 2 = .ok (.invokevirtual 35, 3) := by decide +kernel
theorem dL_copy_5 : decode cL_copy 5 = .ok (.ireturn, 1) := by decide +kernel
theorem dL_copy_6 : decode cL_copy 6 = .ok (.astore_n 2, 1) := by decide +kernel
theorem dL_copy_7 : decode cL_copy 7 = .ok (.iconst (-1), 1) := by decide +kernel
theorem dL_copy_8 : decode cL_copy 8 = .ok (.ireturn, 1) := by decide +kernel
theorem dL_copy_9 : decode cL_copy 9 = .ok (.astore_n 2, 1) := by decide +kernel
theorem dL_copy_10 : decode cL_copy 10 = .ok (.bipush (-2), 2) := by decide +kernel
theorem dL_copy_12 : decode cL_copy 12 = .ok (.ireturn, 1) := by decide +kernel
theorem dL_slip_0 : decode cL_slip 0 = .ok (.aload_n 0, 1) := by decide +kernel
theorem dL_slip_1 : decode cL_slip 1 = .ok (.iload_n 1, 1) := by decide +kernel
theorem dL_slip_2 : decode cL_slip 2 = .ok (.iload_n 2, 1) := by decide +kernel
theorem dL_slip_3 : decode cL_slip 3 = .ok (.iload_n 3, 1) := by decide +kernel
theorem dL_slip_4 : decode cL_slip 4 = .ok (.iload 4, 2) := by decide +kernel
theorem dL_slip_6 : decode cL_slip 6 = .ok (.invokevirtual 38, 3) := by decide +kernel
theorem dL_slip_9 : decode cL_slip 9 = .ok (.ireturn, 1) := by decide +kernel
theorem dL_slip_10 : decode cL_slip 10 = .ok (.astore 5, 2) := by decide +kernel
theorem dL_slip_12 : decode cL_slip 12 = .ok (.iconst (-1), 1) := by decide +kernel
theorem dL_slip_13 : decode cL_slip 13 = .ok (.ireturn, 1) := by decide +kernel
theorem dL_slip_14 : decode cL_slip 14 = .ok (.astore 5, 2) := by decide +kernel
theorem dL_slip_16 : decode cL_slip 16 = .ok (.bipush (-2), 2) := by decide +kernel
theorem dL_slip_18 : decode cL_slip 18 = .ok (.ireturn, 1) := by decide +kernel
theorem dL_slip_19 : decode cL_slip 19 = .ok (.astore 5, 2) := by decide +kernel
theorem dL_slip_21 : decode cL_slip 21 = .ok (.bipush (-3), 2) := by decide +kernel
theorem dL_slip_23 : decode cL_slip 23 = .ok (.ireturn, 1) := by decide +kernel
theorem dL_smudge_0 : decode cL_smudge 0 = .ok (.aload_n 0, 1) := by decide +kernel
theorem dL_smudge_1 : decode cL_smudge 1 = .ok (.iload_n 1, 1) := by decide +kernel
theorem dL_smudge_2 : decode cL_smudge 2 = .ok (.iload_n 2, 1) := by decide +kernel
theorem dL_smudge_3 : decode cL_smudge 3 = .ok (.iload_n 3, 1) := by decide +kernel
theorem dL_smudge_4 : decode cL_smudge 4 = .ok (.invokevirtual 41, 3) := by decide +kernel
theorem dL_smudge_7 : decode cL_smudge 7 = .ok (.ireturn, 1) := by decide +kernel
theorem dL_smudge_8 : decode cL_smudge 8 = .ok (.astore 4, 2) := by decide +kernel
theorem dL_smudge_10 : decode cL_smudge 10 = .ok (.iconst (-1), 1) := by decide +kernel
theorem dL_smudge_11 : decode cL_smudge 11 = .ok (.ireturn, 1) := by decide +kernel
theorem dL_smudge_12 : decode cL_smudge 12 = .ok (.astore 4, 2) := by decide +kernel
theorem dL_smudge_14 : decode cL_smudge 14 = .ok (.bipush (-2), 2) := by decide +kernel
theorem dL_smudge_16 : decode cL_smudge 16 = .ok (.ireturn, 1) := by decide +kernel
theorem dL_rowSum_0 : decode cL_rowSum 0 = .ok (.aload_n 0, 1) := by decide +kernel
theorem dL_rowSum_1 : decode cL_rowSum 1 = .ok (.iload_n 1, 1) := by decide +kernel
theorem dL_rowSum_2 : decode cL_rowSum 2 = .ok (.iload_n 2, 1) := by decide +kernel
theorem dL_rowSum_3 : decode cL_rowSum 3 = .ok (.invokevirtual 44, 3) := by decide +kernel
theorem dL_rowSum_6 : decode cL_rowSum 6 = .ok (.ireturn, 1) := by decide +kernel
theorem dL_rowSum_7 : decode cL_rowSum 7 = .ok (.astore_n 3, 1) := by decide +kernel
theorem dL_rowSum_8 : decode cL_rowSum 8 = .ok (.bipush (-11), 2) := by decide +kernel
theorem dL_rowSum_10 : decode cL_rowSum 10 = .ok (.ireturn, 1) := by decide +kernel
theorem dL_rowSum_11 : decode cL_rowSum 11 = .ok (.astore_n 3, 1) := by decide +kernel
theorem dL_rowSum_12 : decode cL_rowSum 12 = .ok (.bipush (-13), 2) := by decide +kernel
theorem dL_rowSum_14 : decode cL_rowSum 14 = .ok (.ireturn, 1) := by decide +kernel
theorem dL_columnSum_0 : decode cL_columnSum 0 = .ok (.aload_n 0, 1) := by decide +kernel
theorem dL_columnSum_1 : decode cL_columnSum 1 = .ok (.iload_n 1, 1) := by decide +kernel
theorem dL_columnSum_2 : decode cL_columnSum 2 = .ok (.iload_n 2, 1) := by decide +kernel
theorem dL_columnSum_3 : decode cL_columnSum 3 = .ok (.invokevirtual 49, 3) := by decide +kernel
theorem dL_columnSum_6 : decode cL_columnSum 6 = .ok (.ireturn, 1) := by decide +kernel
theorem dL_columnSum_7 : decode cL_columnSum 7 = .ok (.astore_n 3, 1) := by decide +kernel
theorem dL_columnSum_8 : decode cL_columnSum 8 = .ok (.bipush (-11), 2) := by decide +kernel
theorem dL_columnSum_10 : decode cL_columnSum 10 = .ok (.ireturn, 1) := by decide +kernel
theorem dL_columnSum_11 : decode cL_columnSum 11 = .ok (.astore_n 3, 1) := by decide +kernel
theorem dL_columnSum_12 : decode cL_columnSum 12 = .ok (.bipush (-13), 2) := by decide +kernel
theorem dL_columnSum_14 : decode cL_columnSum 14 = .ok (.ireturn, 1) := by decide +kernel
theorem dL_rowFault_0 : decode cL_rowFault 0 = .ok (.aload_n 0, 1) := by decide +kernel
theorem dL_rowFault_1 : decode cL_rowFault 1 = .ok (.iload_n 1, 1) := by decide +kernel
theorem dL_rowFault_2 : decode cL_rowFault 2 = .ok (.iload_n 2, 1) := by decide +kernel
theorem dL_rowFault_3 : decode cL_rowFault 3 = .ok (.invokevirtual 52, 3) := by decide +kernel
theorem dL_rowFault_6 : decode cL_rowFault 6 = .ok (.ireturn, 1) := by decide +kernel
theorem dL_rowFault_7 : decode cL_rowFault 7 = .ok (.astore_n 3, 1) := by decide +kernel
theorem dL_rowFault_8 : decode cL_rowFault 8 = .ok (.bipush (-11), 2) := by decide +kernel
theorem dL_rowFault_10 : decode cL_rowFault 10 = .ok (.ireturn, 1) := by decide +kernel
theorem dL_rowFault_11 : decode cL_rowFault 11 = .ok (.astore_n 3, 1) := by decide +kernel
theorem dL_rowFault_12 : decode cL_rowFault 12 = .ok (.bipush (-13), 2) := by decide +kernel
theorem dL_rowFault_14 : decode cL_rowFault 14 = .ok (.ireturn, 1) := by decide +kernel
theorem dL_columnFault_0 : decode cL_columnFault 0 = .ok (.aload_n 0, 1) := by decide +kernel
theorem dL_columnFault_1 : decode cL_columnFault 1 = .ok (.iload_n 1, 1) := by decide +kernel
theorem dL_columnFault_2 : decode cL_columnFault 2 = .ok (.iload_n 2, 1) := by decide +kernel
theorem dL_columnFault_3 : decode cL_columnFault 3 = .ok (.invokevirtual 55, 3) := by decide +kernel
theorem dL_columnFault_6 : decode cL_columnFault 6 = .ok (.ireturn, 1) := by decide +kernel
theorem dL_columnFault_7 : decode cL_columnFault 7 = .ok (.astore_n 3, 1) := by decide +kernel
theorem dL_columnFault_8 : decode cL_columnFault 8 = .ok (.bipush (-11), 2) := by decide +kernel
theorem dL_columnFault_10 : decode cL_columnFault 10 = .ok (.ireturn, 1) := by decide +kernel
theorem dL_columnFault_11 : decode cL_columnFault 11 = .ok (.astore_n 3, 1) := by decide +kernel
theorem dL_columnFault_12 : decode cL_columnFault 12 = .ok (.bipush (-13), 2) := by decide +kernel
theorem dL_columnFault_14 : decode cL_columnFault 14 = .ok (.ireturn, 1) := by decide +kernel
theorem dL_wrongRows_0 : decode cL_wrongRows 0 = .ok (.aload_n 0, 1) := by decide +kernel
theorem dL_wrongRows_1 : decode cL_wrongRows 1 = .ok (.iload_n 1, 1) := by decide +kernel
theorem dL_wrongRows_2 : decode cL_wrongRows 2 = .ok (.invokevirtual 58, 3) := by decide +kernel
theorem dL_wrongRows_5 : decode cL_wrongRows 5 = .ok (.ireturn, 1) := by decide +kernel
theorem dL_wrongRows_6 : decode cL_wrongRows 6 = .ok (.astore_n 2, 1) := by decide +kernel
theorem dL_wrongRows_7 : decode cL_wrongRows 7 = .ok (.bipush (-11), 2) := by decide +kernel
theorem dL_wrongRows_9 : decode cL_wrongRows 9 = .ok (.ireturn, 1) := by decide +kernel
theorem dL_wrongRows_10 : decode cL_wrongRows 10 = .ok (.astore_n 2, 1) := by decide +kernel
theorem dL_wrongRows_11 : decode cL_wrongRows 11 = .ok (.bipush (-13), 2) := by decide +kernel
theorem dL_wrongRows_13 : decode cL_wrongRows 13 = .ok (.ireturn, 1) := by decide +kernel
theorem dL_wrongColumns_0 : decode cL_wrongColumns 0 = .ok (.aload_n 0, 1) := by decide +kernel
theorem dL_wrongColumns_1 : decode cL_wrongColumns 1 = .ok (.iload_n 1, 1) := by decide +kernel
theorem dL_wrongColumns_2 : decode cL_wrongColumns 2 = .ok (.invokevirtual 61, 3) := by decide +kernel
theorem dL_wrongColumns_5 : decode cL_wrongColumns 5 = .ok (.ireturn, 1) := by decide +kernel
theorem dL_wrongColumns_6 : decode cL_wrongColumns 6 = .ok (.astore_n 2, 1) := by decide +kernel
theorem dL_wrongColumns_7 : decode cL_wrongColumns 7 = .ok (.bipush (-11), 2) := by decide +kernel
theorem dL_wrongColumns_9 : decode cL_wrongColumns 9 = .ok (.ireturn, 1) := by decide +kernel
theorem dL_wrongColumns_10 : decode cL_wrongColumns 10 = .ok (.astore_n 2, 1) := by decide +kernel
theorem dL_wrongColumns_11 : decode cL_wrongColumns 11 = .ok (.bipush (-13), 2) := by decide +kernel
theorem dL_wrongColumns_13 : decode cL_wrongColumns 13 = .ok (.ireturn, 1) := by decide +kernel
theorem dL_doubt_0 : decode cL_doubt 0 = .ok (.aload_n 0, 1) := by decide +kernel
theorem dL_doubt_1 : decode cL_doubt 1 = .ok (.iload_n 1, 1) := by decide +kernel
theorem dL_doubt_2 : decode cL_doubt 2 = .ok (.iload_n 2, 1) := by decide +kernel
theorem dL_doubt_3 : decode cL_doubt 3 = .ok (.iload_n 3, 1) := by decide +kernel
theorem dL_doubt_4 : decode cL_doubt 4 = .ok (.invokevirtual 64, 3) := by decide +kernel
theorem dL_doubt_7 : decode cL_doubt 7 = .ok (.ifCond .eq 7, 3) := by decide +kernel
theorem dL_doubt_10 : decode cL_doubt 10 = .ok (.iconst 1, 1) := by decide +kernel
theorem dL_doubt_11 : decode cL_doubt 11 = .ok (.goto 4, 3) := by decide +kernel
theorem dL_doubt_14 : decode cL_doubt 14 = .ok (.iconst 0, 1) := by decide +kernel
theorem dL_doubt_15 : decode cL_doubt 15 = .ok (.ireturn, 1) := by decide +kernel
theorem dL_doubt_16 : decode cL_doubt 16 = .ok (.astore 4, 2) := by decide +kernel
theorem dL_doubt_18 : decode cL_doubt 18 = .ok (.bipush (-11), 2) := by decide +kernel
theorem dL_doubt_20 : decode cL_doubt 20 = .ok (.ireturn, 1) := by decide +kernel
theorem dL_doubts_0 : decode cL_doubts 0 = .ok (.aload_n 0, 1) := by decide +kernel
theorem dL_doubts_1 : decode cL_doubts 1 = .ok (.iload_n 1, 1) := by decide +kernel
theorem dL_doubts_2 : decode cL_doubts 2 = .ok (.invokevirtual 68, 3) := by decide +kernel
theorem dL_doubts_5 : decode cL_doubts 5 = .ok (.ireturn, 1) := by decide +kernel
theorem dL_doubts_6 : decode cL_doubts 6 = .ok (.astore_n 2, 1) := by decide +kernel
theorem dL_doubts_7 : decode cL_doubts 7 = .ok (.bipush (-11), 2) := by decide +kernel
theorem dL_doubts_9 : decode cL_doubts 9 = .ok (.ireturn, 1) := by decide +kernel
theorem dL_doubtsAgain_0 : decode cL_doubtsAgain 0 = .ok (.aload_n 0, 1) := by decide +kernel
theorem dL_doubtsAgain_1 : decode cL_doubtsAgain 1 = .ok (.iload_n 1, 1) := by decide +kernel
theorem dL_doubtsAgain_2 : decode cL_doubtsAgain 2 = .ok (.invokevirtual 71, 3) := by decide +kernel
theorem dL_doubtsAgain_5 : decode cL_doubtsAgain 5 = .ok (.ireturn, 1) := by decide +kernel
theorem dL_doubtsAgain_6 : decode cL_doubtsAgain 6 = .ok (.astore_n 2, 1) := by decide +kernel
theorem dL_doubtsAgain_7 : decode cL_doubtsAgain 7 = .ok (.bipush (-11), 2) := by decide +kernel
theorem dL_doubtsAgain_9 : decode cL_doubtsAgain 9 = .ok (.ireturn, 1) := by decide +kernel
theorem dL_mend_0 : decode cL_mend 0 = .ok (.aload_n 0, 1) := by decide +kernel
theorem dL_mend_1 : decode cL_mend 1 = .ok (.iload_n 1, 1) := by decide +kernel
theorem dL_mend_2 : decode cL_mend 2 = .ok (.invokevirtual 74, 3) := by decide +kernel
theorem dL_mend_5 : decode cL_mend 5 = .ok (.ireturn, 1) := by decide +kernel
theorem dL_mend_6 : decode cL_mend 6 = .ok (.astore_n 2, 1) := by decide +kernel
theorem dL_mend_7 : decode cL_mend 7 = .ok (.iconst (-1), 1) := by decide +kernel
theorem dL_mend_8 : decode cL_mend 8 = .ok (.ireturn, 1) := by decide +kernel
theorem dL_mend_9 : decode cL_mend 9 = .ok (.astore_n 2, 1) := by decide +kernel
theorem dL_mend_10 : decode cL_mend 10 = .ok (.bipush (-2), 2) := by decide +kernel
theorem dL_mend_12 : decode cL_mend 12 = .ok (.ireturn, 1) := by decide +kernel
theorem dL_wouldMend_0 : decode cL_wouldMend 0 = .ok (.aload_n 0, 1) := by decide +kernel
theorem dL_wouldMend_1 : decode cL_wouldMend 1 = .ok (.iload_n 1, 1) := by decide +kernel
theorem dL_wouldMend_2 : decode cL_wouldMend 2 = .ok (.invokevirtual 77, 3) := by decide +kernel
theorem dL_wouldMend_5 : decode cL_wouldMend 5 = .ok (.ireturn, 1) := by decide +kernel
theorem dL_wouldMend_6 : decode cL_wouldMend 6 = .ok (.astore_n 2, 1) := by decide +kernel
theorem dL_wouldMend_7 : decode cL_wouldMend 7 = .ok (.bipush (-11), 2) := by decide +kernel
theorem dL_wouldMend_9 : decode cL_wouldMend 9 = .ok (.ireturn, 1) := by decide +kernel
theorem dL_wouldMend_10 : decode cL_wouldMend 10 = .ok (.astore_n 2, 1) := by decide +kernel
theorem dL_wouldMend_11 : decode cL_wouldMend 11 = .ok (.bipush (-13), 2) := by decide +kernel
theorem dL_wouldMend_13 : decode cL_wouldMend 13 = .ok (.ireturn, 1) := by decide +kernel
theorem dL_mendAgain_0 : decode cL_mendAgain 0 = .ok (.aload_n 0, 1) := by decide +kernel
theorem dL_mendAgain_1 : decode cL_mendAgain 1 = .ok (.iload_n 1, 1) := by decide +kernel
theorem dL_mendAgain_2 : decode cL_mendAgain 2 = .ok (.invokevirtual 80, 3) := by decide +kernel
theorem dL_mendAgain_5 : decode cL_mendAgain 5 = .ok (.ireturn, 1) := by decide +kernel
theorem dL_mendAgain_6 : decode cL_mendAgain 6 = .ok (.astore_n 2, 1) := by decide +kernel
theorem dL_mendAgain_7 : decode cL_mendAgain 7 = .ok (.bipush (-11), 2) := by decide +kernel
theorem dL_mendAgain_9 : decode cL_mendAgain 9 = .ok (.ireturn, 1) := by decide +kernel
theorem dL_mendAgain_10 : decode cL_mendAgain 10 = .ok (.astore_n 2, 1) := by decide +kernel
theorem dL_mendAgain_11 : decode cL_mendAgain 11 = .ok (.bipush (-13), 2) := by decide +kernel
theorem dL_mendAgain_13 : decode cL_mendAgain 13 = .ok (.ireturn, 1) := by decide +kernel
theorem dL_fill_0 : decode cL_fill 0 = .ok (.aload_n 0, 1) := by decide +kernel
theorem dL_fill_1 : decode cL_fill 1 = .ok (.iload_n 1, 1) := by decide +kernel
theorem dL_fill_2 : decode cL_fill 2 = .ok (.invokevirtual 83, 3) := by decide +kernel
theorem dL_fill_5 : decode cL_fill 5 = .ok (.ireturn, 1) := by decide +kernel
theorem dL_fill_6 : decode cL_fill 6 = .ok (.astore_n 2, 1) := by decide +kernel
theorem dL_fill_7 : decode cL_fill 7 = .ok (.iconst (-1), 1) := by decide +kernel
theorem dL_fill_8 : decode cL_fill 8 = .ok (.ireturn, 1) := by decide +kernel
theorem dL_fill_9 : decode cL_fill 9 = .ok (.astore_n 2, 1) := by decide +kernel
theorem dL_fill_10 : decode cL_fill 10 = .ok (.bipush (-2), 2) := by decide +kernel
theorem dL_fill_12 : decode cL_fill 12 = .ok (.ireturn, 1) := by decide +kernel
theorem dL_wouldFill_0 : decode cL_wouldFill 0 = .ok (.aload_n 0, 1) := by decide +kernel
theorem dL_wouldFill_1 : decode cL_wouldFill 1 = .ok (.iload_n 1, 1) := by decide +kernel
theorem dL_wouldFill_2 : decode cL_wouldFill 2 = .ok (.iload_n 2, 1) := by decide +kernel
theorem dL_wouldFill_3 : decode cL_wouldFill 3 = .ok (.iload_n 3, 1) := by decide +kernel
theorem dL_wouldFill_4 : decode cL_wouldFill 4 = .ok (.invokevirtual 86, 3) := by decide +kernel
theorem dL_wouldFill_7 : decode cL_wouldFill 7 = .ok (.ireturn, 1) := by decide +kernel
theorem dL_wouldFill_8 : decode cL_wouldFill 8 = .ok (.astore 4, 2) := by decide +kernel
theorem dL_wouldFill_10 : decode cL_wouldFill 10 = .ok (.bipush (-11), 2) := by decide +kernel
theorem dL_wouldFill_12 : decode cL_wouldFill 12 = .ok (.ireturn, 1) := by decide +kernel
theorem dL_wouldFill_13 : decode cL_wouldFill 13 = .ok (.astore 4, 2) := by decide +kernel
theorem dL_wouldFill_15 : decode cL_wouldFill 15 = .ok (.bipush (-13), 2) := by decide +kernel
theorem dL_wouldFill_17 : decode cL_wouldFill 17 = .ok (.ireturn, 1) := by decide +kernel
theorem dL_differ_0 : decode cL_differ 0 = .ok (.aload_n 0, 1) := by decide +kernel
theorem dL_differ_1 : decode cL_differ 1 = .ok (.iload_n 1, 1) := by decide +kernel
theorem dL_differ_2 : decode cL_differ 2 = .ok (.iload_n 2, 1) := by decide +kernel
theorem dL_differ_3 : decode cL_differ 3 = .ok (.invokevirtual 89, 3) := by decide +kernel
theorem dL_differ_6 : decode cL_differ 6 = .ok (.ireturn, 1) := by decide +kernel
theorem dL_differ_7 : decode cL_differ 7 = .ok (.astore_n 3, 1) := by decide +kernel
theorem dL_differ_8 : decode cL_differ 8 = .ok (.bipush (-11), 2) := by decide +kernel
theorem dL_differ_10 : decode cL_differ 10 = .ok (.ireturn, 1) := by decide +kernel
theorem dL_differ_11 : decode cL_differ 11 = .ok (.astore_n 3, 1) := by decide +kernel
theorem dL_differ_12 : decode cL_differ 12 = .ok (.bipush (-12), 2) := by decide +kernel
theorem dL_differ_14 : decode cL_differ 14 = .ok (.ireturn, 1) := by decide +kernel
theorem dL_ranked_0 : decode cL_ranked 0 = .ok (.aload_n 0, 1) := by decide +kernel
theorem dL_ranked_1 : decode cL_ranked 1 = .ok (.iload_n 1, 1) := by decide +kernel
theorem dL_ranked_2 : decode cL_ranked 2 = .ok (.invokevirtual 92, 3) := by decide +kernel
theorem dL_ranked_5 : decode cL_ranked 5 = .ok (.ireturn, 1) := by decide +kernel
theorem dL_ranked_6 : decode cL_ranked 6 = .ok (.astore_n 2, 1) := by decide +kernel
theorem dL_ranked_7 : decode cL_ranked 7 = .ok (.bipush (-13), 2) := by decide +kernel
theorem dL_ranked_9 : decode cL_ranked 9 = .ok (.ireturn, 1) := by decide +kernel
theorem dL_count_0 : decode cL_count 0 = .ok (.aload_n 0, 1) := by decide +kernel
theorem dL_count_1 : decode cL_count 1 = .ok (.iload_n 1, 1) := by decide +kernel
theorem dL_count_2 : decode cL_count 2 = .ok (.iload_n 2, 1) := by decide +kernel
theorem dL_count_3 : decode cL_count 3 = .ok (.invokevirtual 95, 3) := by decide +kernel
theorem dL_count_6 : decode cL_count 6 = .ok (.ireturn, 1) := by decide +kernel
theorem dL_count_7 : decode cL_count 7 = .ok (.astore_n 3, 1) := by decide +kernel
theorem dL_count_8 : decode cL_count 8 = .ok (.bipush (-11), 2) := by decide +kernel
theorem dL_count_10 : decode cL_count 10 = .ok (.ireturn, 1) := by decide +kernel
theorem dL_count_11 : decode cL_count 11 = .ok (.astore_n 3, 1) := by decide +kernel
theorem dL_count_12 : decode cL_count 12 = .ok (.bipush (-12), 2) := by decide +kernel
theorem dL_count_14 : decode cL_count 14 = .ok (.ireturn, 1) := by decide +kernel
theorem dL_line_0 : decode cL_line 0 = .ok (.aload_n 0, 1) := by decide +kernel
theorem dL_line_1 : decode cL_line 1 = .ok (.iload_n 1, 1) := by decide +kernel
theorem dL_line_2 : decode cL_line 2 = .ok (.iload_n 2, 1) := by decide +kernel
theorem dL_line_3 : decode cL_line 3 = .ok (.invokevirtual 98, 3) := by decide +kernel
theorem dL_line_6 : decode cL_line 6 = .ok (.ireturn, 1) := by decide +kernel
theorem dL_line_7 : decode cL_line 7 = .ok (.astore_n 3, 1) := by decide +kernel
theorem dL_line_8 : decode cL_line 8 = .ok (.bipush (-11), 2) := by decide +kernel
theorem dL_line_10 : decode cL_line 10 = .ok (.ireturn, 1) := by decide +kernel
theorem dL_append_0 : decode cL_append 0 = .ok (.aload_n 0, 1) := by decide +kernel
theorem dL_append_1 : decode cL_append 1 = .ok (.iload_n 1, 1) := by decide +kernel
theorem dL_append_2 : decode cL_append 2 = .ok (.invokevirtual 101, 3) := by decide +kernel
theorem dL_append_5 : decode cL_append 5 = .ok (.ireturn, 1) := by decide +kernel
theorem dL_append_6 : decode cL_append 6 = .ok (.astore_n 2, 1) := by decide +kernel
theorem dL_append_7 : decode cL_append 7 = .ok (.iconst (-1), 1) := by decide +kernel
theorem dL_append_8 : decode cL_append 8 = .ok (.ireturn, 1) := by decide +kernel
theorem dL_reads_0 : decode cL_reads 0 = .ok (.aload_n 0, 1) := by decide +kernel
theorem dL_reads_1 : decode cL_reads 1 = .ok (.invokevirtual 107, 3) := by decide +kernel
theorem dL_reads_4 : decode cL_reads 4 = .ok (.ireturn, 1) := by decide +kernel
theorem dL_reads_5 : decode cL_reads 5 = .ok (.astore_n 1, 1) := by decide +kernel
theorem dL_reads_6 : decode cL_reads 6 = .ok (.iconst (-1), 1) := by decide +kernel
theorem dL_reads_7 : decode cL_reads 7 = .ok (.ireturn, 1) := by decide +kernel
theorem dL_reads_8 : decode cL_reads 8 = .ok (.astore_n 1, 1) := by decide +kernel
theorem dL_reads_9 : decode cL_reads 9 = .ok (.bipush (-2), 2) := by decide +kernel
theorem dL_reads_11 : decode cL_reads 11 = .ok (.ireturn, 1) := by decide +kernel
theorem dL_read_0 : decode cL_read 0 = .ok (.iconst 0, 1) := by decide +kernel
theorem dL_read_1 : decode cL_read 1 = .ok (.istore_n 2, 1) := by decide +kernel
theorem dL_read_2 : decode cL_read 2 = .ok (.iload_n 2, 1) := by decide +kernel
theorem dL_read_3 : decode cL_read 3 = .ok (.aload_n 1, 1) := by decide +kernel
theorem dL_read_4 : decode cL_read 4 = .ok (.invokevirtual 111, 3) := by decide +kernel
theorem dL_read_7 : decode cL_read 7 = .ok (.if_icmp .ge 27, 3) := by decide +kernel
theorem dL_read_10 : decode cL_read 10 = .ok (.aload_n 0, 1) := by decide +kernel
theorem dL_read_11 : decode cL_read 11 = .ok (.aload_n 1, 1) := by decide +kernel
theorem dL_read_12 : decode cL_read 12 = .ok (.iload_n 2, 1) := by decide +kernel
theorem dL_read_13 : decode cL_read 13 = .ok (.invokevirtual 116, 3) := by decide +kernel
theorem dL_read_16 : decode cL_read 16 = .ok (.invokestatic 120, 3) := by decide +kernel
theorem dL_read_19 : decode cL_read 19 = .ok (.iload_n 2, 1) := by decide +kernel
theorem dL_read_20 : decode cL_read 20 = .ok (.iconst 1, 1) := by decide +kernel
theorem dL_read_21 : decode cL_read 21 = .ok (.iadd, 1) := by decide +kernel
theorem dL_read_22 : decode cL_read 22 = .ok (.if_icmp .eq 6, 3) := by decide +kernel
theorem dL_read_25 : decode cL_read 25 = .ok (.bipush (-9), 2) := by decide +kernel
theorem dL_read_27 : decode cL_read 27 = .ok (.ireturn, 1) := by decide +kernel
theorem dL_read_28 : decode cL_read 28 = .ok (.iinc 2 1, 3) := by decide +kernel
theorem dL_read_31 : decode cL_read 31 = .ok (.goto (-29), 3) := by decide +kernel
theorem dL_read_34 : decode cL_read 34 = .ok (.aload_n 0, 1) := by decide +kernel
theorem dL_read_35 : decode cL_read 35 = .ok (.invokestatic 125, 3) := by decide +kernel
theorem dL_read_38 : decode cL_read 38 = .ok (.ireturn, 1) := by decide +kernel
theorem dL_refusal_0 : decode cL_refusal 0 = .ok (.aload_n 0, 1) := by decide +kernel
theorem dL_refusal_1 : decode cL_refusal 1 = .ok (.iload_n 1, 1) := by decide +kernel
theorem dL_refusal_2 : decode cL_refusal 2 = .ok (.invokevirtual 129, 3) := by decide +kernel
theorem dL_refusal_5 : decode cL_refusal 5 = .ok (.ireturn, 1) := by decide +kernel
theorem dL_refusal_6 : decode cL_refusal 6 = .ok (.astore_n 2, 1) := by decide +kernel
theorem dL_refusal_7 : decode cL_refusal 7 = .ok (.bipush (-101), 2) := by decide +kernel
theorem dL_refusal_9 : decode cL_refusal 9 = .ok (.ireturn, 1) := by decide +kernel
theorem dL_undo_0 : decode cL_undo 0 = .ok (.aload_n 0, 1) := by decide +kernel
theorem dL_undo_1 : decode cL_undo 1 = .ok (.invokevirtual 133, 3) := by decide +kernel
theorem dL_undo_4 : decode cL_undo 4 = .ok (.ireturn, 1) := by decide +kernel
theorem dL_undo_5 : decode cL_undo 5 = .ok (.astore_n 1, 1) := by decide +kernel
theorem dL_undo_6 : decode cL_undo 6 = .ok (.iconst (-1), 1) := by decide +kernel
theorem dL_undo_7 : decode cL_undo 7 = .ok (.ireturn, 1) := by decide +kernel
theorem dL_drawn_0 : decode cL_drawn 0 = .ok (.new 9, 3) := by decide +kernel
theorem dL_drawn_3 : decode cL_drawn 3 = .ok (.dup, 1) := by decide +kernel
theorem dL_drawn_4 : decode cL_drawn 4 = .ok (.invokespecial 136, 3) := by decide +kernel
theorem dL_drawn_7 : decode cL_drawn 7 = .ok (.astore_n 1, 1) := by decide +kernel
theorem dL_drawn_8 : decode cL_drawn 8 = .ok (.aload_n 0, 1) := by decide +kernel
theorem dL_drawn_9 : decode cL_drawn 9 = .ok (.iconst 0, 1) := by decide +kernel
theorem dL_drawn_10 : decode cL_drawn 10 = .ok (.invokestatic 137, 3) := by decide +kernel
theorem dL_drawn_13 : decode cL_drawn 13 = .ok (.iconst 1, 1) := by decide +kernel
theorem dL_drawn_14 : decode cL_drawn 14 = .ok (.iushr, 1) := by decide +kernel
theorem dL_drawn_15 : decode cL_drawn 15 = .ok (.istore_n 2, 1) := by decide +kernel
theorem dL_drawn_16 : decode cL_drawn 16 = .ok (.iconst 1, 1) := by decide +kernel
theorem dL_drawn_17 : decode cL_drawn 17 = .ok (.iload_n 2, 1) := by decide +kernel
theorem dL_drawn_18 : decode cL_drawn 18 = .ok (.iconst 4, 1) := by decide +kernel
theorem dL_drawn_19 : decode cL_drawn 19 = .ok (.irem, 1) := by decide +kernel
theorem dL_drawn_20 : decode cL_drawn 20 = .ok (.iadd, 1) := by decide +kernel
theorem dL_drawn_21 : decode cL_drawn 21 = .ok (.istore_n 3, 1) := by decide +kernel
theorem dL_drawn_22 : decode cL_drawn 22 = .ok (.iconst 1, 1) := by decide +kernel
theorem dL_drawn_23 : decode cL_drawn 23 = .ok (.istore 4, 2) := by decide +kernel
theorem dL_drawn_25 : decode cL_drawn 25 = .ok (.iconst 0, 1) := by decide +kernel
theorem dL_drawn_26 : decode cL_drawn 26 = .ok (.istore 5, 2) := by decide +kernel
theorem dL_drawn_28 : decode cL_drawn 28 = .ok (.iload 5, 2) := by decide +kernel
theorem dL_drawn_30 : decode cL_drawn 30 = .ok (.iload_n 3, 1) := by decide +kernel
theorem dL_drawn_31 : decode cL_drawn 31 = .ok (.if_icmp .ge 138, 3) := by decide +kernel
theorem dL_drawn_34 : decode cL_drawn 34 = .ok (.iconst 1, 1) := by decide +kernel
theorem dL_drawn_35 : decode cL_drawn 35 = .ok (.iload_n 2, 1) := by decide +kernel
theorem dL_drawn_36 : decode cL_drawn 36 = .ok (.iconst 3, 1) := by decide +kernel
theorem dL_drawn_37 : decode cL_drawn 37 = .ok (.iconst 5, 1) := by decide +kernel
theorem dL_drawn_38 : decode cL_drawn 38 = .ok (.iload 5, 2) := by decide +kernel
theorem dL_drawn_40 : decode cL_drawn 40 = .ok (.imul, 1) := by decide +kernel
theorem dL_drawn_41 : decode cL_drawn 41 = .ok (.iadd, 1) := by decide +kernel
theorem dL_drawn_42 : decode cL_drawn 42 = .ok (.iushr, 1) := by decide +kernel
theorem dL_drawn_43 : decode cL_drawn 43 = .ok (.bipush 6, 2) := by decide +kernel
theorem dL_drawn_45 : decode cL_drawn 45 = .ok (.irem, 1) := by decide +kernel
theorem dL_drawn_46 : decode cL_drawn 46 = .ok (.iadd, 1) := by decide +kernel
theorem dL_drawn_47 : decode cL_drawn 47 = .ok (.istore 6, 2) := by decide +kernel
theorem dL_drawn_49 : decode cL_drawn 49 = .ok (.iconst 1, 1) := by decide +kernel
theorem dL_drawn_50 : decode cL_drawn 50 = .ok (.iload_n 2, 1) := by decide +kernel
theorem dL_drawn_51 : decode cL_drawn 51 = .ok (.bipush 6, 2) := by decide +kernel
theorem dL_drawn_53 : decode cL_drawn 53 = .ok (.iconst 5, 1) := by decide +kernel
theorem dL_drawn_54 : decode cL_drawn 54 = .ok (.iload 5, 2) := by decide +kernel
theorem dL_drawn_56 : decode cL_drawn 56 = .ok (.imul, 1) := by decide +kernel
theorem dL_drawn_57 : decode cL_drawn 57 = .ok (.iadd, 1) := by decide +kernel
theorem dL_drawn_58 : decode cL_drawn 58 = .ok (.iushr, 1) := by decide +kernel
theorem dL_drawn_59 : decode cL_drawn 59 = .ok (.bipush 8, 2) := by decide +kernel
theorem dL_drawn_61 : decode cL_drawn 61 = .ok (.irem, 1) := by decide +kernel
theorem dL_drawn_62 : decode cL_drawn 62 = .ok (.iadd, 1) := by decide +kernel
theorem dL_drawn_63 : decode cL_drawn 63 = .ok (.istore 7, 2) := by decide +kernel
theorem dL_drawn_65 : decode cL_drawn 65 = .ok (.aload_n 1, 1) := by decide +kernel
theorem dL_drawn_66 : decode cL_drawn 66 = .ok (.iload 6, 2) := by decide +kernel
theorem dL_drawn_68 : decode cL_drawn 68 = .ok (.iload 7, 2) := by decide +kernel
theorem dL_drawn_70 : decode cL_drawn 70 = .ok (.invokestatic 141, 3) := by decide +kernel
theorem dL_drawn_73 : decode cL_drawn 73 = .ok (.iload 5, 2) := by decide +kernel
theorem dL_drawn_75 : decode cL_drawn 75 = .ok (.if_icmp .eq 5, 3) := by decide +kernel
theorem dL_drawn_78 : decode cL_drawn 78 = .ok (.aconst_null, 1) := by decide +kernel
theorem dL_drawn_79 : decode cL_drawn 79 = .ok (.areturn, 1) := by decide +kernel
theorem dL_drawn_80 : decode cL_drawn 80 = .ok (.iconst 0, 1) := by decide +kernel
theorem dL_drawn_81 : decode cL_drawn 81 = .ok (.istore 8, 2) := by decide +kernel
theorem dL_drawn_83 : decode cL_drawn 83 = .ok (.iload 8, 2) := by decide +kernel
theorem dL_drawn_85 : decode cL_drawn 85 = .ok (.bipush 6, 2) := by decide +kernel
theorem dL_drawn_87 : decode cL_drawn 87 = .ok (.if_icmp .ge 53, 3) := by decide +kernel
theorem dL_drawn_90 : decode cL_drawn 90 = .ok (.aload_n 0, 1) := by decide +kernel
theorem dL_drawn_91 : decode cL_drawn 91 = .ok (.iload 4, 2) := by decide +kernel
theorem dL_drawn_93 : decode cL_drawn 93 = .ok (.invokestatic 137, 3) := by decide +kernel
theorem dL_drawn_96 : decode cL_drawn 96 = .ok (.iconst 1, 1) := by decide +kernel
theorem dL_drawn_97 : decode cL_drawn 97 = .ok (.iushr, 1) := by decide +kernel
theorem dL_drawn_98 : decode cL_drawn 98 = .ok (.istore 9, 2) := by decide +kernel
theorem dL_drawn_100 : decode cL_drawn 100 = .ok (.iinc 4 1, 3) := by decide +kernel
theorem dL_drawn_103 : decode cL_drawn 103 = .ok (.aload_n 1, 1) := by decide +kernel
theorem dL_drawn_104 : decode cL_drawn 104 = .ok (.iload 5, 2) := by decide +kernel
theorem dL_drawn_106 : decode cL_drawn 106 = .ok (.iload 9, 2) := by decide +kernel
theorem dL_drawn_108 : decode cL_drawn 108 = .ok (.iload 6, 2) := by decide +kernel
theorem dL_drawn_110 : decode cL_drawn 110 = .ok (.irem, 1) := by decide +kernel
theorem dL_drawn_111 : decode cL_drawn 111 = .ok (.iload 9, 2) := by decide +kernel
theorem dL_drawn_113 : decode cL_drawn 113 = .ok (.iconst 4, 1) := by decide +kernel
theorem dL_drawn_114 : decode cL_drawn 114 = .ok (.iushr, 1) := by decide +kernel
theorem dL_drawn_115 : decode cL_drawn 115 = .ok (.iload 7, 2) := by decide +kernel
theorem dL_drawn_117 : decode cL_drawn 117 = .ok (.irem, 1) := by decide +kernel
theorem dL_drawn_118 : decode cL_drawn 118 = .ok (.iload 9, 2) := by decide +kernel
theorem dL_drawn_120 : decode cL_drawn 120 = .ok (.bipush 8, 2) := by decide +kernel
theorem dL_drawn_122 : decode cL_drawn 122 = .ok (.iushr, 1) := by decide +kernel
theorem dL_drawn_123 : decode cL_drawn 123 = .ok (.bipush 10, 2) := by decide +kernel
theorem dL_drawn_125 : decode cL_drawn 125 = .ok (.irem, 1) := by decide +kernel
theorem dL_drawn_126 : decode cL_drawn 126 = .ok (.invokestatic 144, 3) := by decide +kernel
theorem dL_drawn_129 : decode cL_drawn 129 = .ok (.ifCond .ge 5, 3) := by decide +kernel
theorem dL_drawn_132 : decode cL_drawn 132 = .ok (.aconst_null, 1) := by decide +kernel
theorem dL_drawn_133 : decode cL_drawn 133 = .ok (.areturn, 1) := by decide +kernel
theorem dL_drawn_134 : decode cL_drawn 134 = .ok (.iinc 8 1, 3) := by decide +kernel
theorem dL_drawn_137 : decode cL_drawn 137 = .ok (.goto (-54), 3) := by decide +kernel
theorem dL_drawn_140 : decode cL_drawn 140 = .ok (.iload_n 2, 1) := by decide +kernel
theorem dL_drawn_141 : decode cL_drawn 141 = .ok (.bipush 20, 2) := by decide +kernel
theorem dL_drawn_143 : decode cL_drawn 143 = .ok (.iload 5, 2) := by decide +kernel
theorem dL_drawn_145 : decode cL_drawn 145 = .ok (.iadd, 1) := by decide +kernel
theorem dL_drawn_146 : decode cL_drawn 146 = .ok (.iushr, 1) := by decide +kernel
theorem dL_drawn_147 : decode cL_drawn 147 = .ok (.iconst 4, 1) := by decide +kernel
theorem dL_drawn_148 : decode cL_drawn 148 = .ok (.irem, 1) := by decide +kernel
theorem dL_drawn_149 : decode cL_drawn 149 = .ok (.ifCond .le 14, 3) := by decide +kernel
theorem dL_drawn_152 : decode cL_drawn 152 = .ok (.aload_n 1, 1) := by decide +kernel
theorem dL_drawn_153 : decode cL_drawn 153 = .ok (.iload 5, 2) := by decide +kernel
theorem dL_drawn_155 : decode cL_drawn 155 = .ok (.invokestatic 147, 3) := by decide +kernel
theorem dL_drawn_158 : decode cL_drawn 158 = .ok (.ifCond .ge 5, 3) := by decide +kernel
theorem dL_drawn_161 : decode cL_drawn 161 = .ok (.aconst_null, 1) := by decide +kernel
theorem dL_drawn_162 : decode cL_drawn 162 = .ok (.areturn, 1) := by decide +kernel
theorem dL_drawn_163 : decode cL_drawn 163 = .ok (.iinc 5 1, 3) := by decide +kernel
theorem dL_drawn_166 : decode cL_drawn 166 = .ok (.goto (-138), 3) := by decide +kernel
theorem dL_drawn_169 : decode cL_drawn 169 = .ok (.bipush 10, 2) := by decide +kernel
theorem dL_drawn_171 : decode cL_drawn 171 = .ok (.iload_n 2, 1) := by decide +kernel
theorem dL_drawn_172 : decode cL_drawn 172 = .ok (.bipush 24, 2) := by decide +kernel
theorem dL_drawn_174 : decode cL_drawn 174 = .ok (.iushr, 1) := by decide +kernel
theorem dL_drawn_175 : decode cL_drawn 175 = .ok (.bipush 36, 2) := by decide +kernel
theorem dL_drawn_177 : decode cL_drawn 177 = .ok (.irem, 1) := by decide +kernel
theorem dL_drawn_178 : decode cL_drawn 178 = .ok (.iadd, 1) := by decide +kernel
theorem dL_drawn_179 : decode cL_drawn 179 = .ok (.istore 5, 2) := by decide +kernel
theorem dL_drawn_181 : decode cL_drawn 181 = .ok (.iconst 0, 1) := by decide +kernel
theorem dL_drawn_182 : decode cL_drawn 182 = .ok (.istore 6, 2) := by decide +kernel
theorem dL_drawn_184 : decode cL_drawn 184 = .ok (.iload 6, 2) := by decide +kernel
theorem dL_drawn_186 : decode cL_drawn 186 = .ok (.iload 5, 2) := by decide +kernel
theorem dL_drawn_188 : decode cL_drawn 188 = .ok (.if_icmp .ge 339, 3) := by decide +kernel
theorem dL_drawn_191 : decode cL_drawn 191 = .ok (.aload_n 0, 1) := by decide +kernel
theorem dL_drawn_192 : decode cL_drawn 192 = .ok (.iload 4, 2) := by decide +kernel
theorem dL_drawn_194 : decode cL_drawn 194 = .ok (.iload 6, 2) := by decide +kernel
theorem dL_drawn_196 : decode cL_drawn 196 = .ok (.iadd, 1) := by decide +kernel
theorem dL_drawn_197 : decode cL_drawn 197 = .ok (.invokestatic 137, 3) := by decide +kernel
theorem dL_drawn_200 : decode cL_drawn 200 = .ok (.iconst 1, 1) := by decide +kernel
theorem dL_drawn_201 : decode cL_drawn 201 = .ok (.iushr, 1) := by decide +kernel
theorem dL_drawn_202 : decode cL_drawn 202 = .ok (.istore 7, 2) := by decide +kernel
theorem dL_drawn_204 : decode cL_drawn 204 = .ok (.iload 7, 2) := by decide +kernel
theorem dL_drawn_206 : decode cL_drawn 206 = .ok (.iconst 4, 1) := by decide +kernel
theorem dL_drawn_207 : decode cL_drawn 207 = .ok (.iushr, 1) := by decide +kernel
theorem dL_drawn_208 : decode cL_drawn 208 = .ok (.aload_n 1, 1) := by decide +kernel
theorem dL_drawn_209 : decode cL_drawn 209 = .ok (.iconst 0, 1) := by decide +kernel
theorem dL_drawn_210 : decode cL_drawn 210 = .ok (.invokevirtual 150, 3) := by decide +kernel
theorem dL_drawn_213 : decode cL_drawn 213 = .ok (.irem, 1) := by decide +kernel
theorem dL_drawn_214 : decode cL_drawn 214 = .ok (.istore 8, 2) := by decide +kernel
theorem dL_drawn_216 : decode cL_drawn 216 = .ok (.iload 7, 2) := by decide +kernel
theorem dL_drawn_218 : decode cL_drawn 218 = .ok (.bipush 7, 2) := by decide +kernel
theorem dL_drawn_220 : decode cL_drawn 220 = .ok (.iushr, 1) := by decide +kernel
theorem dL_drawn_221 : decode cL_drawn 221 = .ok (.aload_n 1, 1) := by decide +kernel
theorem dL_drawn_222 : decode cL_drawn 222 = .ok (.iload 8, 2) := by decide +kernel
theorem dL_drawn_224 : decode cL_drawn 224 = .ok (.iconst 0, 1) := by decide +kernel
theorem dL_drawn_225 : decode cL_drawn 225 = .ok (.invokestatic 153, 3) := by decide +kernel
theorem dL_drawn_228 : decode cL_drawn 228 = .ok (.irem, 1) := by decide +kernel
theorem dL_drawn_229 : decode cL_drawn 229 = .ok (.istore 9, 2) := by decide +kernel
theorem dL_drawn_231 : decode cL_drawn 231 = .ok (.iload 7, 2) := by decide +kernel
theorem dL_drawn_233 : decode cL_drawn 233 = .ok (.bipush 10, 2) := by decide +kernel
theorem dL_drawn_235 : decode cL_drawn 235 = .ok (.iushr, 1) := by decide +kernel
theorem dL_drawn_236 : decode cL_drawn 236 = .ok (.aload_n 1, 1) := by decide +kernel
theorem dL_drawn_237 : decode cL_drawn 237 = .ok (.iload 8, 2) := by decide +kernel
theorem dL_drawn_239 : decode cL_drawn 239 = .ok (.iconst 1, 1) := by decide +kernel
theorem dL_drawn_240 : decode cL_drawn 240 = .ok (.invokestatic 153, 3) := by decide +kernel
theorem dL_drawn_243 : decode cL_drawn 243 = .ok (.irem, 1) := by decide +kernel
theorem dL_drawn_244 : decode cL_drawn 244 = .ok (.istore 10, 2) := by decide +kernel
theorem dL_drawn_246 : decode cL_drawn 246 = .ok (.iload 7, 2) := by decide +kernel
theorem dL_drawn_248 : decode cL_drawn 248 = .ok (.bipush 16, 2) := by decide +kernel
theorem dL_drawn_250 : decode cL_drawn 250 = .ok (.irem, 1) := by decide +kernel
theorem dL_drawn_251 : decode cL_drawn 251 = .ok (.tableswitch 199 0 14 #[73, 73, 105, 105, 116, 127, 127, 127, 162, 162, 162, 177, 177, 188, 188], 73) := by decide +kernel
theorem dL_drawn_324 : decode cL_drawn 324 = .ok (.aload_n 1, 1) := by decide +kernel
theorem dL_drawn_325 : decode cL_drawn 325 = .ok (.iload 8, 2) := by decide +kernel
theorem dL_drawn_327 : decode cL_drawn 327 = .ok (.iload 9, 2) := by decide +kernel
theorem dL_drawn_329 : decode cL_drawn 329 = .ok (.iload 10, 2) := by decide +kernel
theorem dL_drawn_331 : decode cL_drawn 331 = .ok (.iload 7, 2) := by decide +kernel
theorem dL_drawn_333 : decode cL_drawn 333 = .ok (.bipush 14, 2) := by decide +kernel
theorem dL_drawn_335 : decode cL_drawn 335 = .ok (.iushr, 1) := by decide +kernel
theorem dL_drawn_336 : decode cL_drawn 336 = .ok (.bipush 10, 2) := by decide +kernel
theorem dL_drawn_338 : decode cL_drawn 338 = .ok (.irem, 1) := by decide +kernel
theorem dL_drawn_339 : decode cL_drawn 339 = .ok (.invokestatic 144, 3) := by decide +kernel
theorem dL_drawn_342 : decode cL_drawn 342 = .ok (.iconst (-1), 1) := by decide +kernel
theorem dL_drawn_343 : decode cL_drawn 343 = .ok (.if_icmp .ge 7, 3) := by decide +kernel
theorem dL_drawn_346 : decode cL_drawn 346 = .ok (.iconst (-1), 1) := by decide +kernel
theorem dL_drawn_347 : decode cL_drawn 347 = .ok (.goto 4, 3) := by decide +kernel
theorem dL_drawn_350 : decode cL_drawn 350 = .ok (.iconst 0, 1) := by decide +kernel
theorem dL_drawn_351 : decode cL_drawn 351 = .ok (.istore 11, 2) := by decide +kernel
theorem dL_drawn_353 : decode cL_drawn 353 = .ok (.goto 136, 3) := by decide +kernel
theorem dL_drawn_356 : decode cL_drawn 356 = .ok (.aload_n 1, 1) := by decide +kernel
theorem dL_drawn_357 : decode cL_drawn 357 = .ok (.iload 8, 2) := by decide +kernel
theorem dL_drawn_359 : decode cL_drawn 359 = .ok (.invokestatic 147, 3) := by decide +kernel
theorem dL_drawn_362 : decode cL_drawn 362 = .ok (.istore 11, 2) := by decide +kernel
theorem dL_drawn_364 : decode cL_drawn 364 = .ok (.goto 125, 3) := by decide +kernel
theorem dL_drawn_367 : decode cL_drawn 367 = .ok (.aload_n 1, 1) := by decide +kernel
theorem dL_drawn_368 : decode cL_drawn 368 = .ok (.iload 8, 2) := by decide +kernel
theorem dL_drawn_370 : decode cL_drawn 370 = .ok (.invokestatic 156, 3) := by decide +kernel
theorem dL_drawn_373 : decode cL_drawn 373 = .ok (.istore 11, 2) := by decide +kernel
theorem dL_drawn_375 : decode cL_drawn 375 = .ok (.goto 114, 3) := by decide +kernel
theorem dL_drawn_378 : decode cL_drawn 378 = .ok (.aload_n 1, 1) := by decide +kernel
theorem dL_drawn_379 : decode cL_drawn 379 = .ok (.iload 8, 2) := by decide +kernel
theorem dL_drawn_381 : decode cL_drawn 381 = .ok (.iload 9, 2) := by decide +kernel
theorem dL_drawn_383 : decode cL_drawn 383 = .ok (.iload 10, 2) := by decide +kernel
theorem dL_drawn_385 : decode cL_drawn 385 = .ok (.iconst 1, 1) := by decide +kernel
theorem dL_drawn_386 : decode cL_drawn 386 = .ok (.iload 7, 2) := by decide +kernel
theorem dL_drawn_388 : decode cL_drawn 388 = .ok (.bipush 14, 2) := by decide +kernel
theorem dL_drawn_390 : decode cL_drawn 390 = .ok (.iushr, 1) := by decide +kernel
theorem dL_drawn_391 : decode cL_drawn 391 = .ok (.bipush 9, 2) := by decide +kernel
theorem dL_drawn_393 : decode cL_drawn 393 = .ok (.irem, 1) := by decide +kernel
theorem dL_drawn_394 : decode cL_drawn 394 = .ok (.iadd, 1) := by decide +kernel
theorem dL_drawn_395 : decode cL_drawn 395 = .ok (.invokestatic 158, 3) := by decide +kernel
theorem dL_drawn_398 : decode cL_drawn 398 = .ok (.iconst (-1), 1) := by decide +kernel
theorem dL_drawn_399 : decode cL_drawn 399 = .ok (.if_icmp .ge 8, 3) := by decide +kernel
theorem dL_drawn_402 : decode cL_drawn 402 = .ok (.bipush (-2), 2) := by decide +kernel
theorem dL_drawn_404 : decode cL_drawn 404 = .ok (.goto 4, 3) := by decide +kernel
theorem dL_drawn_407 : decode cL_drawn 407 = .ok (.iconst 0, 1) := by decide +kernel
theorem dL_drawn_408 : decode cL_drawn 408 = .ok (.istore 11, 2) := by decide +kernel
theorem dL_drawn_410 : decode cL_drawn 410 = .ok (.goto 79, 3) := by decide +kernel
theorem dL_drawn_413 : decode cL_drawn 413 = .ok (.aload_n 1, 1) := by decide +kernel
theorem dL_drawn_414 : decode cL_drawn 414 = .ok (.iload 8, 2) := by decide +kernel
theorem dL_drawn_416 : decode cL_drawn 416 = .ok (.iload 9, 2) := by decide +kernel
theorem dL_drawn_418 : decode cL_drawn 418 = .ok (.iload 10, 2) := by decide +kernel
theorem dL_drawn_420 : decode cL_drawn 420 = .ok (.invokestatic 160, 3) := by decide +kernel
theorem dL_drawn_423 : decode cL_drawn 423 = .ok (.istore 11, 2) := by decide +kernel
theorem dL_drawn_425 : decode cL_drawn 425 = .ok (.goto 64, 3) := by decide +kernel
theorem dL_drawn_428 : decode cL_drawn 428 = .ok (.aload_n 1, 1) := by decide +kernel
theorem dL_drawn_429 : decode cL_drawn 429 = .ok (.iload 8, 2) := by decide +kernel
theorem dL_drawn_431 : decode cL_drawn 431 = .ok (.invokestatic 163, 3) := by decide +kernel
theorem dL_drawn_434 : decode cL_drawn 434 = .ok (.istore 11, 2) := by decide +kernel
theorem dL_drawn_436 : decode cL_drawn 436 = .ok (.goto 53, 3) := by decide +kernel
theorem dL_drawn_439 : decode cL_drawn 439 = .ok (.aload_n 1, 1) := by decide +kernel
theorem dL_drawn_440 : decode cL_drawn 440 = .ok (.iload 8, 2) := by decide +kernel
theorem dL_drawn_442 : decode cL_drawn 442 = .ok (.invokestatic 165, 3) := by decide +kernel
theorem dL_drawn_445 : decode cL_drawn 445 = .ok (.istore 11, 2) := by decide +kernel
theorem dL_drawn_447 : decode cL_drawn 447 = .ok (.goto 42, 3) := by decide +kernel
theorem dL_drawn_450 : decode cL_drawn 450 = .ok (.aload_n 1, 1) := by decide +kernel
theorem dL_drawn_451 : decode cL_drawn 451 = .ok (.iconst 0, 1) := by decide +kernel
theorem dL_drawn_452 : decode cL_drawn 452 = .ok (.invokevirtual 150, 3) := by decide +kernel
theorem dL_drawn_455 : decode cL_drawn 455 = .ok (.iconst 5, 1) := by decide +kernel
theorem dL_drawn_456 : decode cL_drawn 456 = .ok (.if_icmp .ge 30, 3) := by decide +kernel
theorem dL_drawn_459 : decode cL_drawn 459 = .ok (.aload_n 1, 1) := by decide +kernel
theorem dL_drawn_460 : decode cL_drawn 460 = .ok (.iconst 1, 1) := by decide +kernel
theorem dL_drawn_461 : decode cL_drawn 461 = .ok (.iload 7, 2) := by decide +kernel
theorem dL_drawn_463 : decode cL_drawn 463 = .ok (.bipush 14, 2) := by decide +kernel
theorem dL_drawn_465 : decode cL_drawn 465 = .ok (.iushr, 1) := by decide +kernel
theorem dL_drawn_466 : decode cL_drawn 466 = .ok (.bipush 6, 2) := by decide +kernel
theorem dL_drawn_468 : decode cL_drawn 468 = .ok (.irem, 1) := by decide +kernel
theorem dL_drawn_469 : decode cL_drawn 469 = .ok (.iadd, 1) := by decide +kernel
theorem dL_drawn_470 : decode cL_drawn 470 = .ok (.iconst 1, 1) := by decide +kernel
theorem dL_drawn_471 : decode cL_drawn 471 = .ok (.iload 7, 2) := by decide +kernel
theorem dL_drawn_473 : decode cL_drawn 473 = .ok (.bipush 17, 2) := by decide +kernel
theorem dL_drawn_475 : decode cL_drawn 475 = .ok (.iushr, 1) := by decide +kernel
theorem dL_drawn_476 : decode cL_drawn 476 = .ok (.bipush 8, 2) := by decide +kernel
theorem dL_drawn_478 : decode cL_drawn 478 = .ok (.irem, 1) := by decide +kernel
theorem dL_drawn_479 : decode cL_drawn 479 = .ok (.iadd, 1) := by decide +kernel
theorem dL_drawn_480 : decode cL_drawn 480 = .ok (.invokestatic 141, 3) := by decide +kernel
theorem dL_drawn_483 : decode cL_drawn 483 = .ok (.goto 4, 3) := by decide +kernel
theorem dL_drawn_486 : decode cL_drawn 486 = .ok (.iconst 0, 1) := by decide +kernel
theorem dL_drawn_487 : decode cL_drawn 487 = .ok (.istore 11, 2) := by decide +kernel
theorem dL_drawn_489 : decode cL_drawn 489 = .ok (.iload 11, 2) := by decide +kernel
theorem dL_drawn_491 : decode cL_drawn 491 = .ok (.iconst (-1), 1) := by decide +kernel
theorem dL_drawn_492 : decode cL_drawn 492 = .ok (.if_icmp .eq 27, 3) := by decide +kernel
theorem dL_drawn_495 : decode cL_drawn 495 = .ok (.iload 11, 2) := by decide +kernel
theorem dL_drawn_497 : decode cL_drawn 497 = .ok (.ifCond .ge 24, 3) := by decide +kernel
theorem dL_drawn_500 : decode cL_drawn 500 = .ok (.aload_n 1, 1) := by decide +kernel
theorem dL_drawn_501 : decode cL_drawn 501 = .ok (.iconst 0, 1) := by decide +kernel
theorem dL_drawn_502 : decode cL_drawn 502 = .ok (.invokestatic 167, 3) := by decide +kernel
theorem dL_drawn_505 : decode cL_drawn 505 = .ok (.iconst 1, 1) := by decide +kernel
theorem dL_drawn_506 : decode cL_drawn 506 = .ok (.if_icmp .lt 13, 3) := by decide +kernel
theorem dL_drawn_509 : decode cL_drawn 509 = .ok (.aload_n 1, 1) := by decide +kernel
theorem dL_drawn_510 : decode cL_drawn 510 = .ok (.iconst 0, 1) := by decide +kernel
theorem dL_drawn_511 : decode cL_drawn 511 = .ok (.invokestatic 167, 3) := by decide +kernel
theorem dL_drawn_514 : decode cL_drawn 514 = .ok (.bipush 7, 2) := by decide +kernel
theorem dL_drawn_516 : decode cL_drawn 516 = .ok (.if_icmp .le 5, 3) := by decide +kernel
theorem dL_drawn_519 : decode cL_drawn 519 = .ok (.aconst_null, 1) := by decide +kernel
theorem dL_drawn_520 : decode cL_drawn 520 = .ok (.areturn, 1) := by decide +kernel
theorem dL_drawn_521 : decode cL_drawn 521 = .ok (.iinc 6 1, 3) := by decide +kernel
theorem dL_drawn_524 : decode cL_drawn 524 = .ok (.goto (-340), 3) := by decide +kernel
theorem dL_drawn_527 : decode cL_drawn 527 = .ok (.aload_n 1, 1) := by decide +kernel
theorem dL_drawn_528 : decode cL_drawn 528 = .ok (.areturn, 1) := by decide +kernel
theorem dL_law_0 : decode cL_law 0 = .ok (.aload_n 0, 1) := by decide +kernel
theorem dL_law_1 : decode cL_law 1 = .ok (.invokestatic 170, 3) := by decide +kernel
theorem dL_law_4 : decode cL_law 4 = .ok (.astore_n 1, 1) := by decide +kernel
theorem dL_law_5 : decode cL_law 5 = .ok (.aload_n 1, 1) := by decide +kernel
theorem dL_law_6 : decode cL_law 6 = .ok (.ifnull 10, 3) := by decide +kernel
theorem dL_law_9 : decode cL_law 9 = .ok (.aload_n 1, 1) := by decide +kernel
theorem dL_law_10 : decode cL_law 10 = .ok (.invokestatic 174, 3) := by decide +kernel
theorem dL_law_13 : decode cL_law 13 = .ok (.ifCond .ne 5, 3) := by decide +kernel
theorem dL_law_16 : decode cL_law 16 = .ok (.iconst 0, 1) := by decide +kernel
theorem dL_law_17 : decode cL_law 17 = .ok (.ireturn, 1) := by decide +kernel
theorem dL_law_18 : decode cL_law 18 = .ok (.iconst 0, 1) := by decide +kernel
theorem dL_law_19 : decode cL_law 19 = .ok (.istore_n 2, 1) := by decide +kernel
theorem dL_law_20 : decode cL_law 20 = .ok (.iload_n 2, 1) := by decide +kernel
theorem dL_law_21 : decode cL_law 21 = .ok (.aload_n 1, 1) := by decide +kernel
theorem dL_law_22 : decode cL_law 22 = .ok (.iconst 0, 1) := by decide +kernel
theorem dL_law_23 : decode cL_law 23 = .ok (.invokevirtual 150, 3) := by decide +kernel
theorem dL_law_26 : decode cL_law 26 = .ok (.if_icmp .ge 35, 3) := by decide +kernel
theorem dL_law_29 : decode cL_law 29 = .ok (.aload_n 1, 1) := by decide +kernel
theorem dL_law_30 : decode cL_law 30 = .ok (.iload_n 2, 1) := by decide +kernel
theorem dL_law_31 : decode cL_law 31 = .ok (.invokestatic 178, 3) := by decide +kernel
theorem dL_law_34 : decode cL_law 34 = .ok (.ifCond .eq 19, 3) := by decide +kernel
theorem dL_law_37 : decode cL_law 37 = .ok (.aload_n 1, 1) := by decide +kernel
theorem dL_law_38 : decode cL_law 38 = .ok (.iload_n 2, 1) := by decide +kernel
theorem dL_law_39 : decode cL_law 39 = .ok (.invokestatic 182, 3) := by decide +kernel
theorem dL_law_42 : decode cL_law 42 = .ok (.ifCond .eq 11, 3) := by decide +kernel
theorem dL_law_45 : decode cL_law 45 = .ok (.aload_n 1, 1) := by decide +kernel
theorem dL_law_46 : decode cL_law 46 = .ok (.iload_n 2, 1) := by decide +kernel
theorem dL_law_47 : decode cL_law 47 = .ok (.invokestatic 185, 3) := by decide +kernel
theorem dL_law_50 : decode cL_law 50 = .ok (.ifCond .ne 5, 3) := by decide +kernel
theorem dL_law_53 : decode cL_law 53 = .ok (.iconst 0, 1) := by decide +kernel
theorem dL_law_54 : decode cL_law 54 = .ok (.ireturn, 1) := by decide +kernel
theorem dL_law_55 : decode cL_law 55 = .ok (.iinc 2 1, 3) := by decide +kernel
theorem dL_law_58 : decode cL_law 58 = .ok (.goto (-38), 3) := by decide +kernel
theorem dL_law_61 : decode cL_law 61 = .ok (.aload_n 1, 1) := by decide +kernel
theorem dL_law_62 : decode cL_law 62 = .ok (.invokestatic 188, 3) := by decide +kernel
theorem dL_law_65 : decode cL_law 65 = .ok (.ifCond .eq 15, 3) := by decide +kernel
theorem dL_law_68 : decode cL_law 68 = .ok (.aload_n 0, 1) := by decide +kernel
theorem dL_law_69 : decode cL_law 69 = .ok (.aload_n 1, 1) := by decide +kernel
theorem dL_law_70 : decode cL_law 70 = .ok (.invokestatic 191, 3) := by decide +kernel
theorem dL_law_73 : decode cL_law 73 = .ok (.ifCond .eq 7, 3) := by decide +kernel
theorem dL_law_76 : decode cL_law 76 = .ok (.iconst 1, 1) := by decide +kernel
theorem dL_law_77 : decode cL_law 77 = .ok (.goto 4, 3) := by decide +kernel
theorem dL_law_80 : decode cL_law 80 = .ok (.iconst 0, 1) := by decide +kernel
theorem dL_law_81 : decode cL_law 81 = .ok (.ireturn, 1) := by decide +kernel
theorem dL_now_0 : decode cL_now 0 = .ok (.iconst 0, 1) := by decide +kernel
theorem dL_now_1 : decode cL_now 1 = .ok (.istore 4, 2) := by decide +kernel
theorem dL_now_3 : decode cL_now 3 = .ok (.iconst 0, 1) := by decide +kernel
theorem dL_now_4 : decode cL_now 4 = .ok (.istore 5, 2) := by decide +kernel
theorem dL_now_6 : decode cL_now 6 = .ok (.iload 5, 2) := by decide +kernel
theorem dL_now_8 : decode cL_now 8 = .ok (.aload_n 0, 1) := by decide +kernel
theorem dL_now_9 : decode cL_now 9 = .ok (.iload_n 1, 1) := by decide +kernel
theorem dL_now_10 : decode cL_now 10 = .ok (.iload_n 2, 1) := by decide +kernel
theorem dL_now_11 : decode cL_now 11 = .ok (.ifCond .eq 7, 3) := by decide +kernel
theorem dL_now_14 : decode cL_now 14 = .ok (.iconst 1, 1) := by decide +kernel
theorem dL_now_15 : decode cL_now 15 = .ok (.goto 4, 3) := by decide +kernel
theorem dL_now_18 : decode cL_now 18 = .ok (.iconst 0, 1) := by decide +kernel
theorem dL_now_19 : decode cL_now 19 = .ok (.invokestatic 153, 3) := by decide +kernel
theorem dL_now_22 : decode cL_now 22 = .ok (.if_icmp .ge 50, 3) := by decide +kernel
theorem dL_now_25 : decode cL_now 25 = .ok (.iload_n 2, 1) := by decide +kernel
theorem dL_now_26 : decode cL_now 26 = .ok (.ifCond .eq 14, 3) := by decide +kernel
theorem dL_now_29 : decode cL_now 29 = .ok (.aload_n 0, 1) := by decide +kernel
theorem dL_now_30 : decode cL_now 30 = .ok (.iload_n 1, 1) := by decide +kernel
theorem dL_now_31 : decode cL_now 31 = .ok (.iload_n 3, 1) := by decide +kernel
theorem dL_now_32 : decode cL_now 32 = .ok (.iload 5, 2) := by decide +kernel
theorem dL_now_34 : decode cL_now 34 = .ok (.invokestatic 195, 3) := by decide +kernel
theorem dL_now_37 : decode cL_now 37 = .ok (.goto 11, 3) := by decide +kernel
theorem dL_now_40 : decode cL_now 40 = .ok (.aload_n 0, 1) := by decide +kernel
theorem dL_now_41 : decode cL_now 41 = .ok (.iload_n 1, 1) := by decide +kernel
theorem dL_now_42 : decode cL_now 42 = .ok (.iload 5, 2) := by decide +kernel
theorem dL_now_44 : decode cL_now 44 = .ok (.iload_n 3, 1) := by decide +kernel
theorem dL_now_45 : decode cL_now 45 = .ok (.invokestatic 195, 3) := by decide +kernel
theorem dL_now_48 : decode cL_now 48 = .ok (.istore 6, 2) := by decide +kernel
theorem dL_now_50 : decode cL_now 50 = .ok (.iload 4, 2) := by decide +kernel
theorem dL_now_52 : decode cL_now 52 = .ok (.iload 6, 2) := by decide +kernel
theorem dL_now_54 : decode cL_now 54 = .ok (.ifCond .ge 7, 3) := by decide +kernel
theorem dL_now_57 : decode cL_now 57 = .ok (.iconst 0, 1) := by decide +kernel
theorem dL_now_58 : decode cL_now 58 = .ok (.goto 5, 3) := by decide +kernel
theorem dL_now_61 : decode cL_now 61 = .ok (.iload 6, 2) := by decide +kernel
theorem dL_now_63 : decode cL_now 63 = .ok (.iadd, 1) := by decide +kernel
theorem dL_now_64 : decode cL_now 64 = .ok (.istore 4, 2) := by decide +kernel
theorem dL_now_66 : decode cL_now 66 = .ok (.iinc 5 1, 3) := by decide +kernel
theorem dL_now_69 : decode cL_now 69 = .ok (.goto (-63), 3) := by decide +kernel
theorem dL_now_72 : decode cL_now 72 = .ok (.iload 4, 2) := by decide +kernel
theorem dL_now_74 : decode cL_now 74 = .ok (.bipush 10, 2) := by decide +kernel
theorem dL_now_76 : decode cL_now 76 = .ok (.irem, 1) := by decide +kernel
theorem dL_now_77 : decode cL_now 77 = .ok (.ireturn, 1) := by decide +kernel
theorem dL_isSmudged_0 : decode cL_isSmudged 0 = .ok (.iconst 0, 1) := by decide +kernel
theorem dL_isSmudged_1 : decode cL_isSmudged 1 = .ok (.istore 4, 2) := by decide +kernel
theorem dL_isSmudged_3 : decode cL_isSmudged 3 = .ok (.iload 4, 2) := by decide +kernel
theorem dL_isSmudged_5 : decode cL_isSmudged 5 = .ok (.aload_n 0, 1) := by decide +kernel
theorem dL_isSmudged_6 : decode cL_isSmudged 6 = .ok (.iload_n 1, 1) := by decide +kernel
theorem dL_isSmudged_7 : decode cL_isSmudged 7 = .ok (.iload_n 2, 1) := by decide +kernel
theorem dL_isSmudged_8 : decode cL_isSmudged 8 = .ok (.ifCond .eq 7, 3) := by decide +kernel
theorem dL_isSmudged_11 : decode cL_isSmudged 11 = .ok (.iconst 1, 1) := by decide +kernel
theorem dL_isSmudged_12 : decode cL_isSmudged 12 = .ok (.goto 4, 3) := by decide +kernel
theorem dL_isSmudged_15 : decode cL_isSmudged 15 = .ok (.iconst 0, 1) := by decide +kernel
theorem dL_isSmudged_16 : decode cL_isSmudged 16 = .ok (.invokestatic 153, 3) := by decide +kernel
theorem dL_isSmudged_19 : decode cL_isSmudged 19 = .ok (.if_icmp .ge 37, 3) := by decide +kernel
theorem dL_isSmudged_22 : decode cL_isSmudged 22 = .ok (.iload_n 2, 1) := by decide +kernel
theorem dL_isSmudged_23 : decode cL_isSmudged 23 = .ok (.ifCond .eq 14, 3) := by decide +kernel
theorem dL_isSmudged_26 : decode cL_isSmudged 26 = .ok (.aload_n 0, 1) := by decide +kernel
theorem dL_isSmudged_27 : decode cL_isSmudged 27 = .ok (.iload_n 1, 1) := by decide +kernel
theorem dL_isSmudged_28 : decode cL_isSmudged 28 = .ok (.iload_n 3, 1) := by decide +kernel
theorem dL_isSmudged_29 : decode cL_isSmudged 29 = .ok (.iload 4, 2) := by decide +kernel
theorem dL_isSmudged_31 : decode cL_isSmudged 31 = .ok (.invokestatic 195, 3) := by decide +kernel
theorem dL_isSmudged_34 : decode cL_isSmudged 34 = .ok (.goto 11, 3) := by decide +kernel
theorem dL_isSmudged_37 : decode cL_isSmudged 37 = .ok (.aload_n 0, 1) := by decide +kernel
theorem dL_isSmudged_38 : decode cL_isSmudged 38 = .ok (.iload_n 1, 1) := by decide +kernel
theorem dL_isSmudged_39 : decode cL_isSmudged 39 = .ok (.iload 4, 2) := by decide +kernel
theorem dL_isSmudged_41 : decode cL_isSmudged 41 = .ok (.iload_n 3, 1) := by decide +kernel
theorem dL_isSmudged_42 : decode cL_isSmudged 42 = .ok (.invokestatic 195, 3) := by decide +kernel
theorem dL_isSmudged_45 : decode cL_isSmudged 45 = .ok (.ifCond .ge 5, 3) := by decide +kernel
theorem dL_isSmudged_48 : decode cL_isSmudged 48 = .ok (.iconst 1, 1) := by decide +kernel
theorem dL_isSmudged_49 : decode cL_isSmudged 49 = .ok (.ireturn, 1) := by decide +kernel
theorem dL_isSmudged_50 : decode cL_isSmudged 50 = .ok (.iinc 4 1, 3) := by decide +kernel
theorem dL_isSmudged_53 : decode cL_isSmudged 53 = .ok (.goto (-50), 3) := by decide +kernel
theorem dL_isSmudged_56 : decode cL_isSmudged 56 = .ok (.iconst 0, 1) := by decide +kernel
theorem dL_isSmudged_57 : decode cL_isSmudged 57 = .ok (.ireturn, 1) := by decide +kernel
theorem dL_isWrong_0 : decode cL_isWrong 0 = .ok (.iload_n 2, 1) := by decide +kernel
theorem dL_isWrong_1 : decode cL_isWrong 1 = .ok (.ifCond .eq 12, 3) := by decide +kernel
theorem dL_isWrong_4 : decode cL_isWrong 4 = .ok (.aload_n 0, 1) := by decide +kernel
theorem dL_isWrong_5 : decode cL_isWrong 5 = .ok (.iload_n 1, 1) := by decide +kernel
theorem dL_isWrong_6 : decode cL_isWrong 6 = .ok (.iload_n 3, 1) := by decide +kernel
theorem dL_isWrong_7 : decode cL_isWrong 7 = .ok (.invokestatic 198, 3) := by decide +kernel
theorem dL_isWrong_10 : decode cL_isWrong 10 = .ok (.goto 9, 3) := by decide +kernel
theorem dL_isWrong_13 : decode cL_isWrong 13 = .ok (.aload_n 0, 1) := by decide +kernel
theorem dL_isWrong_14 : decode cL_isWrong 14 = .ok (.iload_n 1, 1) := by decide +kernel
theorem dL_isWrong_15 : decode cL_isWrong 15 = .ok (.iload_n 3, 1) := by decide +kernel
theorem dL_isWrong_16 : decode cL_isWrong 16 = .ok (.invokestatic 200, 3) := by decide +kernel
theorem dL_isWrong_19 : decode cL_isWrong 19 = .ok (.istore 4, 2) := by decide +kernel
theorem dL_isWrong_21 : decode cL_isWrong 21 = .ok (.iload 4, 2) := by decide +kernel
theorem dL_isWrong_23 : decode cL_isWrong 23 = .ok (.ifCond .lt 29, 3) := by decide +kernel
theorem dL_isWrong_26 : decode cL_isWrong 26 = .ok (.aload_n 0, 1) := by decide +kernel
theorem dL_isWrong_27 : decode cL_isWrong 27 = .ok (.iload_n 1, 1) := by decide +kernel
theorem dL_isWrong_28 : decode cL_isWrong 28 = .ok (.iload_n 2, 1) := by decide +kernel
theorem dL_isWrong_29 : decode cL_isWrong 29 = .ok (.iload_n 3, 1) := by decide +kernel
theorem dL_isWrong_30 : decode cL_isWrong 30 = .ok (.invokestatic 202, 3) := by decide +kernel
theorem dL_isWrong_33 : decode cL_isWrong 33 = .ok (.ifCond .ne 19, 3) := by decide +kernel
theorem dL_isWrong_36 : decode cL_isWrong 36 = .ok (.iload 4, 2) := by decide +kernel
theorem dL_isWrong_38 : decode cL_isWrong 38 = .ok (.aload_n 0, 1) := by decide +kernel
theorem dL_isWrong_39 : decode cL_isWrong 39 = .ok (.iload_n 1, 1) := by decide +kernel
theorem dL_isWrong_40 : decode cL_isWrong 40 = .ok (.iload_n 2, 1) := by decide +kernel
theorem dL_isWrong_41 : decode cL_isWrong 41 = .ok (.iload_n 3, 1) := by decide +kernel
theorem dL_isWrong_42 : decode cL_isWrong 42 = .ok (.invokestatic 206, 3) := by decide +kernel
theorem dL_isWrong_45 : decode cL_isWrong 45 = .ok (.if_icmp .eq 7, 3) := by decide +kernel
theorem dL_isWrong_48 : decode cL_isWrong 48 = .ok (.iconst 1, 1) := by decide +kernel
theorem dL_isWrong_49 : decode cL_isWrong 49 = .ok (.goto 4, 3) := by decide +kernel
theorem dL_isWrong_52 : decode cL_isWrong 52 = .ok (.iconst 0, 1) := by decide +kernel
theorem dL_isWrong_53 : decode cL_isWrong 53 = .ok (.ireturn, 1) := by decide +kernel
theorem dL_sums_0 : decode cL_sums 0 = .ok (.aload_n 0, 1) := by decide +kernel
theorem dL_sums_1 : decode cL_sums 1 = .ok (.iload_n 1, 1) := by decide +kernel
theorem dL_sums_2 : decode cL_sums 2 = .ok (.iconst 2, 1) := by decide +kernel
theorem dL_sums_3 : decode cL_sums 3 = .ok (.invokestatic 153, 3) := by decide +kernel
theorem dL_sums_6 : decode cL_sums 6 = .ok (.iconst 1, 1) := by decide +kernel
theorem dL_sums_7 : decode cL_sums 7 = .ok (.if_icmp .ne 7, 3) := by decide +kernel
theorem dL_sums_10 : decode cL_sums 10 = .ok (.iconst 1, 1) := by decide +kernel
theorem dL_sums_11 : decode cL_sums 11 = .ok (.goto 4, 3) := by decide +kernel
theorem dL_sums_14 : decode cL_sums 14 = .ok (.iconst 0, 1) := by decide +kernel
theorem dL_sums_15 : decode cL_sums 15 = .ok (.istore_n 2, 1) := by decide +kernel
theorem dL_sums_16 : decode cL_sums 16 = .ok (.iconst 0, 1) := by decide +kernel
theorem dL_sums_17 : decode cL_sums 17 = .ok (.istore_n 3, 1) := by decide +kernel
theorem dL_sums_18 : decode cL_sums 18 = .ok (.iconst 0, 1) := by decide +kernel
theorem dL_sums_19 : decode cL_sums 19 = .ok (.istore 4, 2) := by decide +kernel
theorem dL_sums_21 : decode cL_sums 21 = .ok (.iconst 0, 1) := by decide +kernel
theorem dL_sums_22 : decode cL_sums 22 = .ok (.istore 5, 2) := by decide +kernel
theorem dL_sums_24 : decode cL_sums 24 = .ok (.iconst 0, 1) := by decide +kernel
theorem dL_sums_25 : decode cL_sums 25 = .ok (.istore 6, 2) := by decide +kernel
theorem dL_sums_27 : decode cL_sums 27 = .ok (.iconst 0, 1) := by decide +kernel
theorem dL_sums_28 : decode cL_sums 28 = .ok (.istore 7, 2) := by decide +kernel
theorem dL_sums_30 : decode cL_sums 30 = .ok (.bipush 10, 2) := by decide +kernel
theorem dL_sums_32 : decode cL_sums 32 = .ok (.newarray .int, 2) := by decide +kernel
theorem dL_sums_34 : decode cL_sums 34 = .ok (.astore 8, 2) := by decide +kernel
theorem dL_sums_36 : decode cL_sums 36 = .ok (.iconst 0, 1) := by decide +kernel
theorem dL_sums_37 : decode cL_sums 37 = .ok (.istore 9, 2) := by decide +kernel
theorem dL_sums_39 : decode cL_sums 39 = .ok (.iload 9, 2) := by decide +kernel
theorem dL_sums_41 : decode cL_sums 41 = .ok (.aload_n 0, 1) := by decide +kernel
theorem dL_sums_42 : decode cL_sums 42 = .ok (.iload_n 1, 1) := by decide +kernel
theorem dL_sums_43 : decode cL_sums 43 = .ok (.iconst 0, 1) := by decide +kernel
theorem dL_sums_44 : decode cL_sums 44 = .ok (.invokestatic 153, 3) := by decide +kernel
theorem dL_sums_47 : decode cL_sums 47 = .ok (.if_icmp .ge 238, 3) := by decide +kernel
theorem dL_sums_50 : decode cL_sums 50 = .ok (.iload_n 2, 1) := by decide +kernel
theorem dL_sums_51 : decode cL_sums 51 = .ok (.ifCond .eq 28, 3) := by decide +kernel
theorem dL_sums_54 : decode cL_sums 54 = .ok (.aload_n 0, 1) := by decide +kernel
theorem dL_sums_55 : decode cL_sums 55 = .ok (.iload_n 1, 1) := by decide +kernel
theorem dL_sums_56 : decode cL_sums 56 = .ok (.iload 9, 2) := by decide +kernel
theorem dL_sums_58 : decode cL_sums 58 = .ok (.invokestatic 198, 3) := by decide +kernel
theorem dL_sums_61 : decode cL_sums 61 = .ok (.bipush 10, 2) := by decide +kernel
theorem dL_sums_63 : decode cL_sums 63 = .ok (.iadd, 1) := by decide +kernel
theorem dL_sums_64 : decode cL_sums 64 = .ok (.aload_n 0, 1) := by decide +kernel
theorem dL_sums_65 : decode cL_sums 65 = .ok (.iload_n 1, 1) := by decide +kernel
theorem dL_sums_66 : decode cL_sums 66 = .ok (.iconst 1, 1) := by decide +kernel
theorem dL_sums_67 : decode cL_sums 67 = .ok (.iload 9, 2) := by decide +kernel
theorem dL_sums_69 : decode cL_sums 69 = .ok (.invokestatic 206, 3) := by decide +kernel
theorem dL_sums_72 : decode cL_sums 72 = .ok (.isub, 1) := by decide +kernel
theorem dL_sums_73 : decode cL_sums 73 = .ok (.bipush 10, 2) := by decide +kernel
theorem dL_sums_75 : decode cL_sums 75 = .ok (.irem, 1) := by decide +kernel
theorem dL_sums_76 : decode cL_sums 76 = .ok (.goto 5, 3) := by decide +kernel
theorem dL_sums_79 : decode cL_sums 79 = .ok (.bipush (-13), 2) := by decide +kernel
theorem dL_sums_81 : decode cL_sums 81 = .ok (.istore 10, 2) := by decide +kernel
theorem dL_sums_83 : decode cL_sums 83 = .ok (.iload_n 3, 1) := by decide +kernel
theorem dL_sums_84 : decode cL_sums 84 = .ok (.aload_n 0, 1) := by decide +kernel
theorem dL_sums_85 : decode cL_sums 85 = .ok (.iload_n 1, 1) := by decide +kernel
theorem dL_sums_86 : decode cL_sums 86 = .ok (.iconst 1, 1) := by decide +kernel
theorem dL_sums_87 : decode cL_sums 87 = .ok (.iload 9, 2) := by decide +kernel
theorem dL_sums_89 : decode cL_sums 89 = .ok (.invokestatic 210, 3) := by decide +kernel
theorem dL_sums_92 : decode cL_sums 92 = .ok (.ifCond .eq 7, 3) := by decide +kernel
theorem dL_sums_95 : decode cL_sums 95 = .ok (.iconst 1, 1) := by decide +kernel
theorem dL_sums_96 : decode cL_sums 96 = .ok (.goto 4, 3) := by decide +kernel
theorem dL_sums_99 : decode cL_sums 99 = .ok (.iconst 0, 1) := by decide +kernel
theorem dL_sums_100 : decode cL_sums 100 = .ok (.iadd, 1) := by decide +kernel
theorem dL_sums_101 : decode cL_sums 101 = .ok (.istore_n 3, 1) := by decide +kernel
theorem dL_sums_102 : decode cL_sums 102 = .ok (.aload_n 0, 1) := by decide +kernel
theorem dL_sums_103 : decode cL_sums 103 = .ok (.iload_n 1, 1) := by decide +kernel
theorem dL_sums_104 : decode cL_sums 104 = .ok (.iload 9, 2) := by decide +kernel
theorem dL_sums_106 : decode cL_sums 106 = .ok (.invokestatic 213, 3) := by decide +kernel
theorem dL_sums_109 : decode cL_sums 109 = .ok (.iload 10, 2) := by decide +kernel
theorem dL_sums_111 : decode cL_sums 111 = .ok (.if_icmp .ne 19, 3) := by decide +kernel
theorem dL_sums_114 : decode cL_sums 114 = .ok (.iload_n 2, 1) := by decide +kernel
theorem dL_sums_115 : decode cL_sums 115 = .ok (.ifCond .ne 17, 3) := by decide +kernel
theorem dL_sums_118 : decode cL_sums 118 = .ok (.aload_n 0, 1) := by decide +kernel
theorem dL_sums_119 : decode cL_sums 119 = .ok (.iload_n 1, 1) := by decide +kernel
theorem dL_sums_120 : decode cL_sums 120 = .ok (.iload 9, 2) := by decide +kernel
theorem dL_sums_122 : decode cL_sums 122 = .ok (.invokestatic 198, 3) := by decide +kernel
theorem dL_sums_125 : decode cL_sums 125 = .ok (.bipush (-13), 2) := by decide +kernel
theorem dL_sums_127 : decode cL_sums 127 = .ok (.if_icmp .eq 5, 3) := by decide +kernel
theorem dL_sums_130 : decode cL_sums 130 = .ok (.iconst 0, 1) := by decide +kernel
theorem dL_sums_131 : decode cL_sums 131 = .ok (.ireturn, 1) := by decide +kernel
theorem dL_sums_132 : decode cL_sums 132 = .ok (.iconst 0, 1) := by decide +kernel
theorem dL_sums_133 : decode cL_sums 133 = .ok (.istore 11, 2) := by decide +kernel
theorem dL_sums_135 : decode cL_sums 135 = .ok (.iload 11, 2) := by decide +kernel
theorem dL_sums_137 : decode cL_sums 137 = .ok (.aload_n 0, 1) := by decide +kernel
theorem dL_sums_138 : decode cL_sums 138 = .ok (.iload_n 1, 1) := by decide +kernel
theorem dL_sums_139 : decode cL_sums 139 = .ok (.iconst 1, 1) := by decide +kernel
theorem dL_sums_140 : decode cL_sums 140 = .ok (.invokestatic 153, 3) := by decide +kernel
theorem dL_sums_143 : decode cL_sums 143 = .ok (.if_icmp .ge 136, 3) := by decide +kernel
theorem dL_sums_146 : decode cL_sums 146 = .ok (.aload_n 0, 1) := by decide +kernel
theorem dL_sums_147 : decode cL_sums 147 = .ok (.iload_n 1, 1) := by decide +kernel
theorem dL_sums_148 : decode cL_sums 148 = .ok (.iload 9, 2) := by decide +kernel
theorem dL_sums_150 : decode cL_sums 150 = .ok (.iload 11, 2) := by decide +kernel
theorem dL_sums_152 : decode cL_sums 152 = .ok (.invokestatic 195, 3) := by decide +kernel
theorem dL_sums_155 : decode cL_sums 155 = .ok (.istore 12, 2) := by decide +kernel
theorem dL_sums_157 : decode cL_sums 157 = .ok (.iload 12, 2) := by decide +kernel
theorem dL_sums_159 : decode cL_sums 159 = .ok (.ifCond .lt 25, 3) := by decide +kernel
theorem dL_sums_162 : decode cL_sums 162 = .ok (.aload_n 0, 1) := by decide +kernel
theorem dL_sums_163 : decode cL_sums 163 = .ok (.iload_n 1, 1) := by decide +kernel
theorem dL_sums_164 : decode cL_sums 164 = .ok (.iconst 1, 1) := by decide +kernel
theorem dL_sums_165 : decode cL_sums 165 = .ok (.iload 9, 2) := by decide +kernel
theorem dL_sums_167 : decode cL_sums 167 = .ok (.invokestatic 210, 3) := by decide +kernel
theorem dL_sums_170 : decode cL_sums 170 = .ok (.ifCond .eq 18, 3) := by decide +kernel
theorem dL_sums_173 : decode cL_sums 173 = .ok (.aload_n 0, 1) := by decide +kernel
theorem dL_sums_174 : decode cL_sums 174 = .ok (.iload_n 1, 1) := by decide +kernel
theorem dL_sums_175 : decode cL_sums 175 = .ok (.iconst 0, 1) := by decide +kernel
theorem dL_sums_176 : decode cL_sums 176 = .ok (.iload 11, 2) := by decide +kernel
theorem dL_sums_178 : decode cL_sums 178 = .ok (.invokestatic 210, 3) := by decide +kernel
theorem dL_sums_181 : decode cL_sums 181 = .ok (.ifCond .eq 7, 3) := by decide +kernel
theorem dL_sums_184 : decode cL_sums 184 = .ok (.iconst 1, 1) := by decide +kernel
theorem dL_sums_185 : decode cL_sums 185 = .ok (.goto 4, 3) := by decide +kernel
theorem dL_sums_188 : decode cL_sums 188 = .ok (.iconst 0, 1) := by decide +kernel
theorem dL_sums_189 : decode cL_sums 189 = .ok (.istore 13, 2) := by decide +kernel
theorem dL_sums_191 : decode cL_sums 191 = .ok (.iload 5, 2) := by decide +kernel
theorem dL_sums_193 : decode cL_sums 193 = .ok (.iload 12, 2) := by decide +kernel
theorem dL_sums_195 : decode cL_sums 195 = .ok (.ifCond .ge 7, 3) := by decide +kernel
theorem dL_sums_198 : decode cL_sums 198 = .ok (.iconst 1, 1) := by decide +kernel
theorem dL_sums_199 : decode cL_sums 199 = .ok (.goto 4, 3) := by decide +kernel
theorem dL_sums_202 : decode cL_sums 202 = .ok (.iconst 0, 1) := by decide +kernel
theorem dL_sums_203 : decode cL_sums 203 = .ok (.iadd, 1) := by decide +kernel
theorem dL_sums_204 : decode cL_sums 204 = .ok (.istore 5, 2) := by decide +kernel
theorem dL_sums_206 : decode cL_sums 206 = .ok (.iload 6, 2) := by decide +kernel
theorem dL_sums_208 : decode cL_sums 208 = .ok (.iload 13, 2) := by decide +kernel
theorem dL_sums_210 : decode cL_sums 210 = .ok (.ifCond .eq 7, 3) := by decide +kernel
theorem dL_sums_213 : decode cL_sums 213 = .ok (.iconst 1, 1) := by decide +kernel
theorem dL_sums_214 : decode cL_sums 214 = .ok (.goto 4, 3) := by decide +kernel
theorem dL_sums_217 : decode cL_sums 217 = .ok (.iconst 0, 1) := by decide +kernel
theorem dL_sums_218 : decode cL_sums 218 = .ok (.iadd, 1) := by decide +kernel
theorem dL_sums_219 : decode cL_sums 219 = .ok (.istore 6, 2) := by decide +kernel
theorem dL_sums_221 : decode cL_sums 221 = .ok (.iload 12, 2) := by decide +kernel
theorem dL_sums_223 : decode cL_sums 223 = .ok (.ifCond .lt 19, 3) := by decide +kernel
theorem dL_sums_226 : decode cL_sums 226 = .ok (.aload 8, 2) := by decide +kernel
theorem dL_sums_228 : decode cL_sums 228 = .ok (.iload 12, 2) := by decide +kernel
theorem dL_sums_230 : decode cL_sums 230 = .ok (.dup2, 1) := by decide +kernel
theorem dL_sums_231 : decode cL_sums 231 = .ok (.iaload, 1) := by decide +kernel
theorem dL_sums_232 : decode cL_sums 232 = .ok (.iconst 1, 1) := by decide +kernel
theorem dL_sums_233 : decode cL_sums 233 = .ok (.iadd, 1) := by decide +kernel
theorem dL_sums_234 : decode cL_sums 234 = .ok (.iastore, 1) := by decide +kernel
theorem dL_sums_235 : decode cL_sums 235 = .ok (.iload 7, 2) := by decide +kernel
theorem dL_sums_237 : decode cL_sums 237 = .ok (.iload 12, 2) := by decide +kernel
theorem dL_sums_239 : decode cL_sums 239 = .ok (.iadd, 1) := by decide +kernel
theorem dL_sums_240 : decode cL_sums 240 = .ok (.istore 7, 2) := by decide +kernel
theorem dL_sums_242 : decode cL_sums 242 = .ok (.aload_n 0, 1) := by decide +kernel
theorem dL_sums_243 : decode cL_sums 243 = .ok (.iload_n 1, 1) := by decide +kernel
theorem dL_sums_244 : decode cL_sums 244 = .ok (.iload 9, 2) := by decide +kernel
theorem dL_sums_246 : decode cL_sums 246 = .ok (.iload 11, 2) := by decide +kernel
theorem dL_sums_248 : decode cL_sums 248 = .ok (.invokestatic 215, 3) := by decide +kernel
theorem dL_sums_251 : decode cL_sums 251 = .ok (.iload 13, 2) := by decide +kernel
theorem dL_sums_253 : decode cL_sums 253 = .ok (.ifCond .eq 7, 3) := by decide +kernel
theorem dL_sums_256 : decode cL_sums 256 = .ok (.iconst 1, 1) := by decide +kernel
theorem dL_sums_257 : decode cL_sums 257 = .ok (.goto 4, 3) := by decide +kernel
theorem dL_sums_260 : decode cL_sums 260 = .ok (.iconst 0, 1) := by decide +kernel
theorem dL_sums_261 : decode cL_sums 261 = .ok (.if_icmp .ne 10, 3) := by decide +kernel
theorem dL_sums_264 : decode cL_sums 264 = .ok (.iload 12, 2) := by decide +kernel
theorem dL_sums_266 : decode cL_sums 266 = .ok (.bipush 9, 2) := by decide +kernel
theorem dL_sums_268 : decode cL_sums 268 = .ok (.if_icmp .le 5, 3) := by decide +kernel
theorem dL_sums_271 : decode cL_sums 271 = .ok (.iconst 0, 1) := by decide +kernel
theorem dL_sums_272 : decode cL_sums 272 = .ok (.ireturn, 1) := by decide +kernel
theorem dL_sums_273 : decode cL_sums 273 = .ok (.iinc 11 1, 3) := by decide +kernel
theorem dL_sums_276 : decode cL_sums 276 = .ok (.goto (-141), 3) := by decide +kernel
theorem dL_sums_279 : decode cL_sums 279 = .ok (.iinc 9 1, 3) := by decide +kernel
theorem dL_sums_282 : decode cL_sums 282 = .ok (.goto (-243), 3) := by decide +kernel
theorem dL_sums_285 : decode cL_sums 285 = .ok (.iconst 0, 1) := by decide +kernel
theorem dL_sums_286 : decode cL_sums 286 = .ok (.istore 9, 2) := by decide +kernel
theorem dL_sums_288 : decode cL_sums 288 = .ok (.iload 9, 2) := by decide +kernel
theorem dL_sums_290 : decode cL_sums 290 = .ok (.aload_n 0, 1) := by decide +kernel
theorem dL_sums_291 : decode cL_sums 291 = .ok (.iload_n 1, 1) := by decide +kernel
theorem dL_sums_292 : decode cL_sums 292 = .ok (.iconst 1, 1) := by decide +kernel
theorem dL_sums_293 : decode cL_sums 293 = .ok (.invokestatic 153, 3) := by decide +kernel
theorem dL_sums_296 : decode cL_sums 296 = .ok (.if_icmp .ge 93, 3) := by decide +kernel
theorem dL_sums_299 : decode cL_sums 299 = .ok (.iload_n 2, 1) := by decide +kernel
theorem dL_sums_300 : decode cL_sums 300 = .ok (.ifCond .eq 28, 3) := by decide +kernel
theorem dL_sums_303 : decode cL_sums 303 = .ok (.aload_n 0, 1) := by decide +kernel
theorem dL_sums_304 : decode cL_sums 304 = .ok (.iload_n 1, 1) := by decide +kernel
theorem dL_sums_305 : decode cL_sums 305 = .ok (.iload 9, 2) := by decide +kernel
theorem dL_sums_307 : decode cL_sums 307 = .ok (.invokestatic 200, 3) := by decide +kernel
theorem dL_sums_310 : decode cL_sums 310 = .ok (.bipush 10, 2) := by decide +kernel
theorem dL_sums_312 : decode cL_sums 312 = .ok (.iadd, 1) := by decide +kernel
theorem dL_sums_313 : decode cL_sums 313 = .ok (.aload_n 0, 1) := by decide +kernel
theorem dL_sums_314 : decode cL_sums 314 = .ok (.iload_n 1, 1) := by decide +kernel
theorem dL_sums_315 : decode cL_sums 315 = .ok (.iconst 0, 1) := by decide +kernel
theorem dL_sums_316 : decode cL_sums 316 = .ok (.iload 9, 2) := by decide +kernel
theorem dL_sums_318 : decode cL_sums 318 = .ok (.invokestatic 206, 3) := by decide +kernel
theorem dL_sums_321 : decode cL_sums 321 = .ok (.isub, 1) := by decide +kernel
theorem dL_sums_322 : decode cL_sums 322 = .ok (.bipush 10, 2) := by decide +kernel
theorem dL_sums_324 : decode cL_sums 324 = .ok (.irem, 1) := by decide +kernel
theorem dL_sums_325 : decode cL_sums 325 = .ok (.goto 5, 3) := by decide +kernel
theorem dL_sums_328 : decode cL_sums 328 = .ok (.bipush (-13), 2) := by decide +kernel
theorem dL_sums_330 : decode cL_sums 330 = .ok (.istore 10, 2) := by decide +kernel
theorem dL_sums_332 : decode cL_sums 332 = .ok (.iload 4, 2) := by decide +kernel
theorem dL_sums_334 : decode cL_sums 334 = .ok (.aload_n 0, 1) := by decide +kernel
theorem dL_sums_335 : decode cL_sums 335 = .ok (.iload_n 1, 1) := by decide +kernel
theorem dL_sums_336 : decode cL_sums 336 = .ok (.iconst 0, 1) := by decide +kernel
theorem dL_sums_337 : decode cL_sums 337 = .ok (.iload 9, 2) := by decide +kernel
theorem dL_sums_339 : decode cL_sums 339 = .ok (.invokestatic 210, 3) := by decide +kernel
theorem dL_sums_342 : decode cL_sums 342 = .ok (.ifCond .eq 7, 3) := by decide +kernel
theorem dL_sums_345 : decode cL_sums 345 = .ok (.iconst 1, 1) := by decide +kernel
theorem dL_sums_346 : decode cL_sums 346 = .ok (.goto 4, 3) := by decide +kernel
theorem dL_sums_349 : decode cL_sums 349 = .ok (.iconst 0, 1) := by decide +kernel
theorem dL_sums_350 : decode cL_sums 350 = .ok (.iadd, 1) := by decide +kernel
theorem dL_sums_351 : decode cL_sums 351 = .ok (.istore 4, 2) := by decide +kernel
theorem dL_sums_353 : decode cL_sums 353 = .ok (.aload_n 0, 1) := by decide +kernel
theorem dL_sums_354 : decode cL_sums 354 = .ok (.iload_n 1, 1) := by decide +kernel
theorem dL_sums_355 : decode cL_sums 355 = .ok (.iload 9, 2) := by decide +kernel
theorem dL_sums_357 : decode cL_sums 357 = .ok (.invokestatic 218, 3) := by decide +kernel
theorem dL_sums_360 : decode cL_sums 360 = .ok (.iload 10, 2) := by decide +kernel
theorem dL_sums_362 : decode cL_sums 362 = .ok (.if_icmp .ne 19, 3) := by decide +kernel
theorem dL_sums_365 : decode cL_sums 365 = .ok (.iload_n 2, 1) := by decide +kernel
theorem dL_sums_366 : decode cL_sums 366 = .ok (.ifCond .ne 17, 3) := by decide +kernel
theorem dL_sums_369 : decode cL_sums 369 = .ok (.aload_n 0, 1) := by decide +kernel
theorem dL_sums_370 : decode cL_sums 370 = .ok (.iload_n 1, 1) := by decide +kernel
theorem dL_sums_371 : decode cL_sums 371 = .ok (.iload 9, 2) := by decide +kernel
theorem dL_sums_373 : decode cL_sums 373 = .ok (.invokestatic 200, 3) := by decide +kernel
theorem dL_sums_376 : decode cL_sums 376 = .ok (.bipush (-13), 2) := by decide +kernel
theorem dL_sums_378 : decode cL_sums 378 = .ok (.if_icmp .eq 5, 3) := by decide +kernel
theorem dL_sums_381 : decode cL_sums 381 = .ok (.iconst 0, 1) := by decide +kernel
theorem dL_sums_382 : decode cL_sums 382 = .ok (.ireturn, 1) := by decide +kernel
theorem dL_sums_383 : decode cL_sums 383 = .ok (.iinc 9 1, 3) := by decide +kernel
theorem dL_sums_386 : decode cL_sums 386 = .ok (.goto (-98), 3) := by decide +kernel
theorem dL_sums_389 : decode cL_sums 389 = .ok (.iconst 0, 1) := by decide +kernel
theorem dL_sums_390 : decode cL_sums 390 = .ok (.istore 9, 2) := by decide +kernel
theorem dL_sums_392 : decode cL_sums 392 = .ok (.iload 9, 2) := by decide +kernel
theorem dL_sums_394 : decode cL_sums 394 = .ok (.bipush 10, 2) := by decide +kernel
theorem dL_sums_396 : decode cL_sums 396 = .ok (.if_icmp .ge 26, 3) := by decide +kernel
theorem dL_sums_399 : decode cL_sums 399 = .ok (.aload_n 0, 1) := by decide +kernel
theorem dL_sums_400 : decode cL_sums 400 = .ok (.iload_n 1, 1) := by decide +kernel
theorem dL_sums_401 : decode cL_sums 401 = .ok (.iload 9, 2) := by decide +kernel
theorem dL_sums_403 : decode cL_sums 403 = .ok (.invokestatic 220, 3) := by decide +kernel
theorem dL_sums_406 : decode cL_sums 406 = .ok (.aload 8, 2) := by decide +kernel
theorem dL_sums_408 : decode cL_sums 408 = .ok (.iload 9, 2) := by decide +kernel
theorem dL_sums_410 : decode cL_sums 410 = .ok (.iaload, 1) := by decide +kernel
theorem dL_sums_411 : decode cL_sums 411 = .ok (.if_icmp .eq 5, 3) := by decide +kernel
theorem dL_sums_414 : decode cL_sums 414 = .ok (.iconst 0, 1) := by decide +kernel
theorem dL_sums_415 : decode cL_sums 415 = .ok (.ireturn, 1) := by decide +kernel
theorem dL_sums_416 : decode cL_sums 416 = .ok (.iinc 9 1, 3) := by decide +kernel
theorem dL_sums_419 : decode cL_sums 419 = .ok (.goto (-27), 3) := by decide +kernel
theorem dL_sums_422 : decode cL_sums 422 = .ok (.aload_n 0, 1) := by decide +kernel
theorem dL_sums_423 : decode cL_sums 423 = .ok (.iload_n 1, 1) := by decide +kernel
theorem dL_sums_424 : decode cL_sums 424 = .ok (.iconst 0, 1) := by decide +kernel
theorem dL_sums_425 : decode cL_sums 425 = .ok (.invokestatic 153, 3) := by decide +kernel
theorem dL_sums_428 : decode cL_sums 428 = .ok (.aload_n 0, 1) := by decide +kernel
theorem dL_sums_429 : decode cL_sums 429 = .ok (.iload_n 1, 1) := by decide +kernel
theorem dL_sums_430 : decode cL_sums 430 = .ok (.iconst 1, 1) := by decide +kernel
theorem dL_sums_431 : decode cL_sums 431 = .ok (.invokestatic 153, 3) := by decide +kernel
theorem dL_sums_434 : decode cL_sums 434 = .ok (.imul, 1) := by decide +kernel
theorem dL_sums_435 : decode cL_sums 435 = .ok (.istore 9, 2) := by decide +kernel
theorem dL_sums_437 : decode cL_sums 437 = .ok (.iload 5, 2) := by decide +kernel
theorem dL_sums_439 : decode cL_sums 439 = .ok (.iload 9, 2) := by decide +kernel
theorem dL_sums_441 : decode cL_sums 441 = .ok (.if_icmp .eq 22, 3) := by decide +kernel
theorem dL_sums_444 : decode cL_sums 444 = .ok (.aload_n 0, 1) := by decide +kernel
theorem dL_sums_445 : decode cL_sums 445 = .ok (.iload_n 1, 1) := by decide +kernel
theorem dL_sums_446 : decode cL_sums 446 = .ok (.invokevirtual 222, 3) := by decide +kernel
theorem dL_sums_449 : decode cL_sums 449 = .ok (.iload 7, 2) := by decide +kernel
theorem dL_sums_451 : decode cL_sums 451 = .ok (.i2d, 1) := by decide +kernel
theorem dL_sums_452 : decode cL_sums 452 = .ok (.iload 9, 2) := by decide +kernel
theorem dL_sums_454 : decode cL_sums 454 = .ok (.iload 5, 2) := by decide +kernel
theorem dL_sums_456 : decode cL_sums 456 = .ok (.isub, 1) := by decide +kernel
theorem dL_sums_457 : decode cL_sums 457 = .ok (.i2d, 1) := by decide +kernel
theorem dL_sums_458 : decode cL_sums 458 = .ok (.ddiv, 1) := by decide +kernel
theorem dL_sums_459 : decode cL_sums 459 = .ok (.dcmp .l, 1) := by decide +kernel
theorem dL_sums_460 : decode cL_sums 460 = .ok (.ifCond .ne 7, 3) := by decide +kernel
theorem dL_sums_463 : decode cL_sums 463 = .ok (.iconst 1, 1) := by decide +kernel
theorem dL_sums_464 : decode cL_sums 464 = .ok (.goto 4, 3) := by decide +kernel
theorem dL_sums_467 : decode cL_sums 467 = .ok (.iconst 0, 1) := by decide +kernel
theorem dL_sums_468 : decode cL_sums 468 = .ok (.istore 10, 2) := by decide +kernel
theorem dL_sums_470 : decode cL_sums 470 = .ok (.iload_n 2, 1) := by decide +kernel
theorem dL_sums_471 : decode cL_sums 471 = .ok (.ifCond .eq 30, 3) := by decide +kernel
theorem dL_sums_474 : decode cL_sums 474 = .ok (.aload_n 0, 1) := by decide +kernel
theorem dL_sums_475 : decode cL_sums 475 = .ok (.iload_n 1, 1) := by decide +kernel
theorem dL_sums_476 : decode cL_sums 476 = .ok (.invokestatic 226, 3) := by decide +kernel
theorem dL_sums_479 : decode cL_sums 479 = .ok (.iload_n 3, 1) := by decide +kernel
theorem dL_sums_480 : decode cL_sums 480 = .ok (.if_icmp .ne 17, 3) := by decide +kernel
theorem dL_sums_483 : decode cL_sums 483 = .ok (.aload_n 0, 1) := by decide +kernel
theorem dL_sums_484 : decode cL_sums 484 = .ok (.iload_n 1, 1) := by decide +kernel
theorem dL_sums_485 : decode cL_sums 485 = .ok (.invokestatic 228, 3) := by decide +kernel
theorem dL_sums_488 : decode cL_sums 488 = .ok (.iload 4, 2) := by decide +kernel
theorem dL_sums_490 : decode cL_sums 490 = .ok (.if_icmp .ne 7, 3) := by decide +kernel
theorem dL_sums_493 : decode cL_sums 493 = .ok (.iconst 1, 1) := by decide +kernel
theorem dL_sums_494 : decode cL_sums 494 = .ok (.goto 32, 3) := by decide +kernel
theorem dL_sums_497 : decode cL_sums 497 = .ok (.iconst 0, 1) := by decide +kernel
theorem dL_sums_498 : decode cL_sums 498 = .ok (.goto 28, 3) := by decide +kernel
theorem dL_sums_501 : decode cL_sums 501 = .ok (.aload_n 0, 1) := by decide +kernel
theorem dL_sums_502 : decode cL_sums 502 = .ok (.iload_n 1, 1) := by decide +kernel
theorem dL_sums_503 : decode cL_sums 503 = .ok (.invokestatic 226, 3) := by decide +kernel
theorem dL_sums_506 : decode cL_sums 506 = .ok (.bipush (-13), 2) := by decide +kernel
theorem dL_sums_508 : decode cL_sums 508 = .ok (.if_icmp .ne 17, 3) := by decide +kernel
theorem dL_sums_511 : decode cL_sums 511 = .ok (.aload_n 0, 1) := by decide +kernel
theorem dL_sums_512 : decode cL_sums 512 = .ok (.iload_n 1, 1) := by decide +kernel
theorem dL_sums_513 : decode cL_sums 513 = .ok (.invokestatic 228, 3) := by decide +kernel
theorem dL_sums_516 : decode cL_sums 516 = .ok (.bipush (-13), 2) := by decide +kernel
theorem dL_sums_518 : decode cL_sums 518 = .ok (.if_icmp .ne 7, 3) := by decide +kernel
theorem dL_sums_521 : decode cL_sums 521 = .ok (.iconst 1, 1) := by decide +kernel
theorem dL_sums_522 : decode cL_sums 522 = .ok (.goto 4, 3) := by decide +kernel
theorem dL_sums_525 : decode cL_sums 525 = .ok (.iconst 0, 1) := by decide +kernel
theorem dL_sums_526 : decode cL_sums 526 = .ok (.istore 11, 2) := by decide +kernel
theorem dL_sums_528 : decode cL_sums 528 = .ok (.aload_n 0, 1) := by decide +kernel
theorem dL_sums_529 : decode cL_sums 529 = .ok (.iload_n 1, 1) := by decide +kernel
theorem dL_sums_530 : decode cL_sums 530 = .ok (.invokestatic 230, 3) := by decide +kernel
theorem dL_sums_533 : decode cL_sums 533 = .ok (.iload 6, 2) := by decide +kernel
theorem dL_sums_535 : decode cL_sums 535 = .ok (.if_icmp .ne 29, 3) := by decide +kernel
theorem dL_sums_538 : decode cL_sums 538 = .ok (.aload_n 0, 1) := by decide +kernel
theorem dL_sums_539 : decode cL_sums 539 = .ok (.iload_n 1, 1) := by decide +kernel
theorem dL_sums_540 : decode cL_sums 540 = .ok (.invokestatic 232, 3) := by decide +kernel
theorem dL_sums_543 : decode cL_sums 543 = .ok (.iload 6, 2) := by decide +kernel
theorem dL_sums_545 : decode cL_sums 545 = .ok (.if_icmp .ne 19, 3) := by decide +kernel
theorem dL_sums_548 : decode cL_sums 548 = .ok (.iload 6, 2) := by decide +kernel
theorem dL_sums_550 : decode cL_sums 550 = .ok (.iload 5, 2) := by decide +kernel
theorem dL_sums_552 : decode cL_sums 552 = .ok (.iload_n 3, 1) := by decide +kernel
theorem dL_sums_553 : decode cL_sums 553 = .ok (.iload 4, 2) := by decide +kernel
theorem dL_sums_555 : decode cL_sums 555 = .ok (.imul, 1) := by decide +kernel
theorem dL_sums_556 : decode cL_sums 556 = .ok (.iadd, 1) := by decide +kernel
theorem dL_sums_557 : decode cL_sums 557 = .ok (.if_icmp .ne 7, 3) := by decide +kernel
theorem dL_sums_560 : decode cL_sums 560 = .ok (.iconst 1, 1) := by decide +kernel
theorem dL_sums_561 : decode cL_sums 561 = .ok (.goto 4, 3) := by decide +kernel
theorem dL_sums_564 : decode cL_sums 564 = .ok (.iconst 0, 1) := by decide +kernel
theorem dL_sums_565 : decode cL_sums 565 = .ok (.istore 12, 2) := by decide +kernel
theorem dL_sums_567 : decode cL_sums 567 = .ok (.bipush (-13), 2) := by decide +kernel
theorem dL_sums_569 : decode cL_sums 569 = .ok (.istore 13, 2) := by decide +kernel
theorem dL_sums_571 : decode cL_sums 571 = .ok (.iload_n 2, 1) := by decide +kernel
theorem dL_sums_572 : decode cL_sums 572 = .ok (.ifCond .eq 113, 3) := by decide +kernel
theorem dL_sums_575 : decode cL_sums 575 = .ok (.iload 5, 2) := by decide +kernel
theorem dL_sums_577 : decode cL_sums 577 = .ok (.ifCond .ne 108, 3) := by decide +kernel
theorem dL_sums_580 : decode cL_sums 580 = .ok (.iload_n 3, 1) := by decide +kernel
theorem dL_sums_581 : decode cL_sums 581 = .ok (.iconst 1, 1) := by decide +kernel
theorem dL_sums_582 : decode cL_sums 582 = .ok (.if_icmp .ne 103, 3) := by decide +kernel
theorem dL_sums_585 : decode cL_sums 585 = .ok (.iload 4, 2) := by decide +kernel
theorem dL_sums_587 : decode cL_sums 587 = .ok (.iconst 1, 1) := by decide +kernel
theorem dL_sums_588 : decode cL_sums 588 = .ok (.if_icmp .ne 97, 3) := by decide +kernel
theorem dL_sums_591 : decode cL_sums 591 = .ok (.iconst 0, 1) := by decide +kernel
theorem dL_sums_592 : decode cL_sums 592 = .ok (.istore 14, 2) := by decide +kernel
theorem dL_sums_594 : decode cL_sums 594 = .ok (.iload 14, 2) := by decide +kernel
theorem dL_sums_596 : decode cL_sums 596 = .ok (.aload_n 0, 1) := by decide +kernel
theorem dL_sums_597 : decode cL_sums 597 = .ok (.iload_n 1, 1) := by decide +kernel
theorem dL_sums_598 : decode cL_sums 598 = .ok (.iconst 0, 1) := by decide +kernel
theorem dL_sums_599 : decode cL_sums 599 = .ok (.invokestatic 153, 3) := by decide +kernel
theorem dL_sums_602 : decode cL_sums 602 = .ok (.if_icmp .ge 83, 3) := by decide +kernel
theorem dL_sums_605 : decode cL_sums 605 = .ok (.iconst 0, 1) := by decide +kernel
theorem dL_sums_606 : decode cL_sums 606 = .ok (.istore 15, 2) := by decide +kernel
theorem dL_sums_608 : decode cL_sums 608 = .ok (.iload 15, 2) := by decide +kernel
theorem dL_sums_610 : decode cL_sums 610 = .ok (.aload_n 0, 1) := by decide +kernel
theorem dL_sums_611 : decode cL_sums 611 = .ok (.iload_n 1, 1) := by decide +kernel
theorem dL_sums_612 : decode cL_sums 612 = .ok (.iconst 1, 1) := by decide +kernel
theorem dL_sums_613 : decode cL_sums 613 = .ok (.invokestatic 153, 3) := by decide +kernel
theorem dL_sums_616 : decode cL_sums 616 = .ok (.if_icmp .ge 63, 3) := by decide +kernel
theorem dL_sums_619 : decode cL_sums 619 = .ok (.aload_n 0, 1) := by decide +kernel
theorem dL_sums_620 : decode cL_sums 620 = .ok (.iload_n 1, 1) := by decide +kernel
theorem dL_sums_621 : decode cL_sums 621 = .ok (.iconst 1, 1) := by decide +kernel
theorem dL_sums_622 : decode cL_sums 622 = .ok (.iload 14, 2) := by decide +kernel
theorem dL_sums_624 : decode cL_sums 624 = .ok (.invokestatic 210, 3) := by decide +kernel
theorem dL_sums_627 : decode cL_sums 627 = .ok (.ifCond .eq 42, 3) := by decide +kernel
theorem dL_sums_630 : decode cL_sums 630 = .ok (.aload_n 0, 1) := by decide +kernel
theorem dL_sums_631 : decode cL_sums 631 = .ok (.iload_n 1, 1) := by decide +kernel
theorem dL_sums_632 : decode cL_sums 632 = .ok (.iconst 0, 1) := by decide +kernel
theorem dL_sums_633 : decode cL_sums 633 = .ok (.iload 15, 2) := by decide +kernel
theorem dL_sums_635 : decode cL_sums 635 = .ok (.invokestatic 210, 3) := by decide +kernel
theorem dL_sums_638 : decode cL_sums 638 = .ok (.ifCond .eq 31, 3) := by decide +kernel
theorem dL_sums_641 : decode cL_sums 641 = .ok (.aload_n 0, 1) := by decide +kernel
theorem dL_sums_642 : decode cL_sums 642 = .ok (.iload_n 1, 1) := by decide +kernel
theorem dL_sums_643 : decode cL_sums 643 = .ok (.iload 14, 2) := by decide +kernel
theorem dL_sums_645 : decode cL_sums 645 = .ok (.invokestatic 213, 3) := by decide +kernel
theorem dL_sums_648 : decode cL_sums 648 = .ok (.aload_n 0, 1) := by decide +kernel
theorem dL_sums_649 : decode cL_sums 649 = .ok (.iload_n 1, 1) := by decide +kernel
theorem dL_sums_650 : decode cL_sums 650 = .ok (.iload 15, 2) := by decide +kernel
theorem dL_sums_652 : decode cL_sums 652 = .ok (.invokestatic 218, 3) := by decide +kernel
theorem dL_sums_655 : decode cL_sums 655 = .ok (.if_icmp .ne 14, 3) := by decide +kernel
theorem dL_sums_658 : decode cL_sums 658 = .ok (.bipush 10, 2) := by decide +kernel
theorem dL_sums_660 : decode cL_sums 660 = .ok (.iload 14, 2) := by decide +kernel
theorem dL_sums_662 : decode cL_sums 662 = .ok (.imul, 1) := by decide +kernel
theorem dL_sums_663 : decode cL_sums 663 = .ok (.iload 15, 2) := by decide +kernel
theorem dL_sums_665 : decode cL_sums 665 = .ok (.iadd, 1) := by decide +kernel
theorem dL_sums_666 : decode cL_sums 666 = .ok (.goto 5, 3) := by decide +kernel
theorem dL_sums_669 : decode cL_sums 669 = .ok (.iload 13, 2) := by decide +kernel
theorem dL_sums_671 : decode cL_sums 671 = .ok (.istore 13, 2) := by decide +kernel
theorem dL_sums_673 : decode cL_sums 673 = .ok (.iinc 15 1, 3) := by decide +kernel
theorem dL_sums_676 : decode cL_sums 676 = .ok (.goto (-68), 3) := by decide +kernel
theorem dL_sums_679 : decode cL_sums 679 = .ok (.iinc 14 1, 3) := by decide +kernel
theorem dL_sums_682 : decode cL_sums 682 = .ok (.goto (-88), 3) := by decide +kernel
theorem dL_sums_685 : decode cL_sums 685 = .ok (.aload_n 0, 1) := by decide +kernel
theorem dL_sums_686 : decode cL_sums 686 = .ok (.iload_n 1, 1) := by decide +kernel
theorem dL_sums_687 : decode cL_sums 687 = .ok (.iconst 4, 1) := by decide +kernel
theorem dL_sums_688 : decode cL_sums 688 = .ok (.invokestatic 153, 3) := by decide +kernel
theorem dL_sums_691 : decode cL_sums 691 = .ok (.iload 5, 2) := by decide +kernel
theorem dL_sums_693 : decode cL_sums 693 = .ok (.if_icmp .ne 58, 3) := by decide +kernel
theorem dL_sums_696 : decode cL_sums 696 = .ok (.iload 10, 2) := by decide +kernel
theorem dL_sums_698 : decode cL_sums 698 = .ok (.ifCond .eq 53, 3) := by decide +kernel
theorem dL_sums_701 : decode cL_sums 701 = .ok (.iload 11, 2) := by decide +kernel
theorem dL_sums_703 : decode cL_sums 703 = .ok (.ifCond .eq 48, 3) := by decide +kernel
theorem dL_sums_706 : decode cL_sums 706 = .ok (.iload 12, 2) := by decide +kernel
theorem dL_sums_708 : decode cL_sums 708 = .ok (.ifCond .eq 43, 3) := by decide +kernel
theorem dL_sums_711 : decode cL_sums 711 = .ok (.aload_n 0, 1) := by decide +kernel
theorem dL_sums_712 : decode cL_sums 712 = .ok (.iload_n 1, 1) := by decide +kernel
theorem dL_sums_713 : decode cL_sums 713 = .ok (.invokevirtual 234, 3) := by decide +kernel
theorem dL_sums_716 : decode cL_sums 716 = .ok (.iload 6, 2) := by decide +kernel
theorem dL_sums_718 : decode cL_sums 718 = .ok (.i2f, 1) := by decide +kernel
theorem dL_sums_719 : decode cL_sums 719 = .ok (.iload 9, 2) := by decide +kernel
theorem dL_sums_721 : decode cL_sums 721 = .ok (.i2f, 1) := by decide +kernel
theorem dL_sums_722 : decode cL_sums 722 = .ok (.fdiv, 1) := by decide +kernel
theorem dL_sums_723 : decode cL_sums 723 = .ok (.fcmp .l, 1) := by decide +kernel
theorem dL_sums_724 : decode cL_sums 724 = .ok (.ifCond .ne 27, 3) := by decide +kernel
theorem dL_sums_727 : decode cL_sums 727 = .ok (.aload_n 0, 1) := by decide +kernel
theorem dL_sums_728 : decode cL_sums 728 = .ok (.iload_n 1, 1) := by decide +kernel
theorem dL_sums_729 : decode cL_sums 729 = .ok (.invokestatic 238, 3) := by decide +kernel
theorem dL_sums_732 : decode cL_sums 732 = .ok (.iload 13, 2) := by decide +kernel
theorem dL_sums_734 : decode cL_sums 734 = .ok (.if_icmp .ne 17, 3) := by decide +kernel
theorem dL_sums_737 : decode cL_sums 737 = .ok (.aload_n 0, 1) := by decide +kernel
theorem dL_sums_738 : decode cL_sums 738 = .ok (.iload_n 1, 1) := by decide +kernel
theorem dL_sums_739 : decode cL_sums 739 = .ok (.invokestatic 240, 3) := by decide +kernel
theorem dL_sums_742 : decode cL_sums 742 = .ok (.iload 13, 2) := by decide +kernel
theorem dL_sums_744 : decode cL_sums 744 = .ok (.if_icmp .ne 7, 3) := by decide +kernel
theorem dL_sums_747 : decode cL_sums 747 = .ok (.iconst 1, 1) := by decide +kernel
theorem dL_sums_748 : decode cL_sums 748 = .ok (.goto 4, 3) := by decide +kernel
theorem dL_sums_751 : decode cL_sums 751 = .ok (.iconst 0, 1) := by decide +kernel
theorem dL_sums_752 : decode cL_sums 752 = .ok (.ireturn, 1) := by decide +kernel
theorem dL_told_0 : decode cL_told 0 = .ok (.iconst 0, 1) := by decide +kernel
theorem dL_told_1 : decode cL_told 1 = .ok (.istore_n 2, 1) := by decide +kernel
theorem dL_told_2 : decode cL_told 2 = .ok (.iload_n 2, 1) := by decide +kernel
theorem dL_told_3 : decode cL_told 3 = .ok (.aload_n 0, 1) := by decide +kernel
theorem dL_told_4 : decode cL_told 4 = .ok (.iload_n 1, 1) := by decide +kernel
theorem dL_told_5 : decode cL_told 5 = .ok (.iconst 0, 1) := by decide +kernel
theorem dL_told_6 : decode cL_told 6 = .ok (.invokestatic 153, 3) := by decide +kernel
theorem dL_told_9 : decode cL_told 9 = .ok (.if_icmp .ge 224, 3) := by decide +kernel
theorem dL_told_12 : decode cL_told 12 = .ok (.new 242, 3) := by decide +kernel
theorem dL_told_15 : decode cL_told 15 = .ok (.dup, 1) := by decide +kernel
theorem dL_told_16 : decode cL_told 16 = .ok (.invokespecial 244, 3) := by decide +kernel
theorem dL_told_19 : decode cL_told 19 = .ok (.astore_n 3, 1) := by decide +kernel
theorem dL_told_20 : decode cL_told 20 = .ok (.iconst 0, 1) := by decide +kernel
theorem dL_told_21 : decode cL_told 21 = .ok (.istore 4, 2) := by decide +kernel
theorem dL_told_23 : decode cL_told 23 = .ok (.iload 4, 2) := by decide +kernel
theorem dL_told_25 : decode cL_told 25 = .ok (.aload_n 0, 1) := by decide +kernel
theorem dL_told_26 : decode cL_told 26 = .ok (.iload_n 1, 1) := by decide +kernel
theorem dL_told_27 : decode cL_told 27 = .ok (.iconst 1, 1) := by decide +kernel
theorem dL_told_28 : decode cL_told 28 = .ok (.invokestatic 153, 3) := by decide +kernel
theorem dL_told_31 : decode cL_told 31 = .ok (.if_icmp .ge 56, 3) := by decide +kernel
theorem dL_told_34 : decode cL_told 34 = .ok (.aload_n 3, 1) := by decide +kernel
theorem dL_told_35 : decode cL_told 35 = .ok (.aload_n 0, 1) := by decide +kernel
theorem dL_told_36 : decode cL_told 36 = .ok (.iload_n 1, 1) := by decide +kernel
theorem dL_told_37 : decode cL_told 37 = .ok (.iload_n 2, 1) := by decide +kernel
theorem dL_told_38 : decode cL_told 38 = .ok (.iload 4, 2) := by decide +kernel
theorem dL_told_40 : decode cL_told 40 = .ok (.invokestatic 195, 3) := by decide +kernel
theorem dL_told_43 : decode cL_told 43 = .ok (.ifCond .ge 8, 3) := by decide +kernel
theorem dL_told_46 : decode cL_told 46 = .ok (.ldc 245, 2) := by decide +kernel
theorem dL_told_48 : decode cL_told 48 = .ok (.goto 29, 3) := by decide +kernel
theorem dL_told_51 : decode cL_told 51 = .ok (.new 242, 3) := by decide +kernel
theorem dL_told_54 : decode cL_told 54 = .ok (.dup, 1) := by decide +kernel
theorem dL_told_55 : decode cL_told 55 = .ok (.invokespecial 244, 3) := by decide +kernel
theorem dL_told_58 : decode cL_told 58 = .ok (.ldc 247, 2) := by decide +kernel
theorem dL_told_60 : decode cL_told 60 = .ok (.invokevirtual 249, 3) := by decide +kernel
theorem dL_told_63 : decode cL_told 63 = .ok (.aload_n 0, 1) := by decide +kernel
theorem dL_told_64 : decode cL_told 64 = .ok (.iload_n 1, 1) := by decide +kernel
theorem dL_told_65 : decode cL_told 65 = .ok (.iload_n 2, 1) := by decide +kernel
theorem dL_told_66 : decode cL_told 66 = .ok (.iload 4, 2) := by decide +kernel
theorem dL_told_68 : decode cL_told 68 = .ok (.invokestatic 195, 3) := by decide +kernel
theorem dL_told_71 : decode cL_told 71 = .ok (.invokevirtual 252, 3) := by decide +kernel
theorem dL_told_74 : decode cL_told 74 = .ok (.invokevirtual 255, 3) := by decide +kernel
theorem dL_told_77 : decode cL_told 77 = .ok (.invokevirtual 249, 3) := by decide +kernel
theorem dL_told_80 : decode cL_told 80 = .ok (.pop, 1) := by decide +kernel
theorem dL_told_81 : decode cL_told 81 = .ok (.iinc 4 1, 3) := by decide +kernel
theorem dL_told_84 : decode cL_told 84 = .ok (.goto (-61), 3) := by decide +kernel
theorem dL_told_87 : decode cL_told 87 = .ok (.aload_n 3, 1) := by decide +kernel
theorem dL_told_88 : decode cL_told 88 = .ok (.aload_n 0, 1) := by decide +kernel
theorem dL_told_89 : decode cL_told 89 = .ok (.iload_n 1, 1) := by decide +kernel
theorem dL_told_90 : decode cL_told 90 = .ok (.iconst 2, 1) := by decide +kernel
theorem dL_told_91 : decode cL_told 91 = .ok (.invokestatic 153, 3) := by decide +kernel
theorem dL_told_94 : decode cL_told 94 = .ok (.iconst 1, 1) := by decide +kernel
theorem dL_told_95 : decode cL_told 95 = .ok (.if_icmp .ne 31, 3) := by decide +kernel
theorem dL_told_98 : decode cL_told 98 = .ok (.new 242, 3) := by decide +kernel
theorem dL_told_101 : decode cL_told 101 = .ok (.dup, 1) := by decide +kernel
theorem dL_told_102 : decode cL_told 102 = .ok (.invokespecial 244, 3) := by decide +kernel
theorem dL_told_105 : decode cL_told 105 = .ok (.ldc_w 259, 3) := by decide +kernel
theorem dL_told_108 : decode cL_told 108 = .ok (.invokevirtual 249, 3) := by decide +kernel
theorem dL_told_111 : decode cL_told 111 = .ok (.aload_n 0, 1) := by decide +kernel
theorem dL_told_112 : decode cL_told 112 = .ok (.iload_n 1, 1) := by decide +kernel
theorem dL_told_113 : decode cL_told 113 = .ok (.iload_n 2, 1) := by decide +kernel
theorem dL_told_114 : decode cL_told 114 = .ok (.invokestatic 198, 3) := by decide +kernel
theorem dL_told_117 : decode cL_told 117 = .ok (.invokevirtual 252, 3) := by decide +kernel
theorem dL_told_120 : decode cL_told 120 = .ok (.invokevirtual 255, 3) := by decide +kernel
theorem dL_told_123 : decode cL_told 123 = .ok (.goto 5, 3) := by decide +kernel
theorem dL_told_126 : decode cL_told 126 = .ok (.ldc 247, 2) := by decide +kernel
theorem dL_told_128 : decode cL_told 128 = .ok (.invokevirtual 249, 3) := by decide +kernel
theorem dL_told_131 : decode cL_told 131 = .ok (.aload_n 0, 1) := by decide +kernel
theorem dL_told_132 : decode cL_told 132 = .ok (.iload_n 1, 1) := by decide +kernel
theorem dL_told_133 : decode cL_told 133 = .ok (.iconst 1, 1) := by decide +kernel
theorem dL_told_134 : decode cL_told 134 = .ok (.iload_n 2, 1) := by decide +kernel
theorem dL_told_135 : decode cL_told 135 = .ok (.invokestatic 210, 3) := by decide +kernel
theorem dL_told_138 : decode cL_told 138 = .ok (.ifCond .eq 9, 3) := by decide +kernel
theorem dL_told_141 : decode cL_told 141 = .ok (.ldc_w 261, 3) := by decide +kernel
theorem dL_told_144 : decode cL_told 144 = .ok (.goto 5, 3) := by decide +kernel
theorem dL_told_147 : decode cL_told 147 = .ok (.ldc 247, 2) := by decide +kernel
theorem dL_told_149 : decode cL_told 149 = .ok (.invokevirtual 249, 3) := by decide +kernel
theorem dL_told_152 : decode cL_told 152 = .ok (.pop, 1) := by decide +kernel
theorem dL_told_153 : decode cL_told 153 = .ok (.aload_n 0, 1) := by decide +kernel
theorem dL_told_154 : decode cL_told 154 = .ok (.iload_n 1, 1) := by decide +kernel
theorem dL_told_155 : decode cL_told 155 = .ok (.iload_n 2, 1) := by decide +kernel
theorem dL_told_156 : decode cL_told 156 = .ok (.invokestatic 263, 3) := by decide +kernel
theorem dL_told_159 : decode cL_told 159 = .ok (.istore 4, 2) := by decide +kernel
theorem dL_told_161 : decode cL_told 161 = .ok (.iload 4, 2) := by decide +kernel
theorem dL_told_163 : decode cL_told 163 = .ok (.aload_n 3, 1) := by decide +kernel
theorem dL_told_164 : decode cL_told 164 = .ok (.invokevirtual 265, 3) := by decide +kernel
theorem dL_told_167 : decode cL_told 167 = .ok (.if_icmp .ne 7, 3) := by decide +kernel
theorem dL_told_170 : decode cL_told 170 = .ok (.iconst 1, 1) := by decide +kernel
theorem dL_told_171 : decode cL_told 171 = .ok (.goto 4, 3) := by decide +kernel
theorem dL_told_174 : decode cL_told 174 = .ok (.iconst 0, 1) := by decide +kernel
theorem dL_told_175 : decode cL_told 175 = .ok (.istore 5, 2) := by decide +kernel
theorem dL_told_177 : decode cL_told 177 = .ok (.iconst 0, 1) := by decide +kernel
theorem dL_told_178 : decode cL_told 178 = .ok (.istore 6, 2) := by decide +kernel
theorem dL_told_180 : decode cL_told 180 = .ok (.iload 6, 2) := by decide +kernel
theorem dL_told_182 : decode cL_told 182 = .ok (.iload 4, 2) := by decide +kernel
theorem dL_told_184 : decode cL_told 184 = .ok (.if_icmp .ge 36, 3) := by decide +kernel
theorem dL_told_187 : decode cL_told 187 = .ok (.iload 5, 2) := by decide +kernel
theorem dL_told_189 : decode cL_told 189 = .ok (.ifCond .eq 31, 3) := by decide +kernel
theorem dL_told_192 : decode cL_told 192 = .ok (.aload_n 0, 1) := by decide +kernel
theorem dL_told_193 : decode cL_told 193 = .ok (.iload 6, 2) := by decide +kernel
theorem dL_told_195 : decode cL_told 195 = .ok (.invokevirtual 266, 3) := by decide +kernel
theorem dL_told_198 : decode cL_told 198 = .ok (.aload_n 3, 1) := by decide +kernel
theorem dL_told_199 : decode cL_told 199 = .ok (.iload 6, 2) := by decide +kernel
theorem dL_told_201 : decode cL_told 201 = .ok (.invokevirtual 269, 3) := by decide +kernel
theorem dL_told_204 : decode cL_told 204 = .ok (.if_icmp .ne 7, 3) := by decide +kernel
theorem dL_told_207 : decode cL_told 207 = .ok (.iconst 1, 1) := by decide +kernel
theorem dL_told_208 : decode cL_told 208 = .ok (.goto 4, 3) := by decide +kernel
theorem dL_told_211 : decode cL_told 211 = .ok (.iconst 0, 1) := by decide +kernel
theorem dL_told_212 : decode cL_told 212 = .ok (.istore 5, 2) := by decide +kernel
theorem dL_told_214 : decode cL_told 214 = .ok (.iinc 6 1, 3) := by decide +kernel
theorem dL_told_217 : decode cL_told 217 = .ok (.goto (-37), 3) := by decide +kernel
theorem dL_told_220 : decode cL_told 220 = .ok (.iload 5, 2) := by decide +kernel
theorem dL_told_222 : decode cL_told 222 = .ok (.ifCond .ne 5, 3) := by decide +kernel
theorem dL_told_225 : decode cL_told 225 = .ok (.iconst 0, 1) := by decide +kernel
theorem dL_told_226 : decode cL_told 226 = .ok (.ireturn, 1) := by decide +kernel
theorem dL_told_227 : decode cL_told 227 = .ok (.iinc 2 1, 3) := by decide +kernel
theorem dL_told_230 : decode cL_told 230 = .ok (.goto (-228), 3) := by decide +kernel
theorem dL_told_233 : decode cL_told 233 = .ok (.iconst 1, 1) := by decide +kernel
theorem dL_told_234 : decode cL_told 234 = .ok (.ireturn, 1) := by decide +kernel
theorem dL_fills_0 : decode cL_fills 0 = .ok (.aload_n 0, 1) := by decide +kernel
theorem dL_fills_1 : decode cL_fills 1 = .ok (.iload_n 1, 1) := by decide +kernel
theorem dL_fills_2 : decode cL_fills 2 = .ok (.iconst 0, 1) := by decide +kernel
theorem dL_fills_3 : decode cL_fills 3 = .ok (.invokestatic 153, 3) := by decide +kernel
theorem dL_fills_6 : decode cL_fills 6 = .ok (.istore_n 2, 1) := by decide +kernel
theorem dL_fills_7 : decode cL_fills 7 = .ok (.aload_n 0, 1) := by decide +kernel
theorem dL_fills_8 : decode cL_fills 8 = .ok (.iload_n 1, 1) := by decide +kernel
theorem dL_fills_9 : decode cL_fills 9 = .ok (.iconst 1, 1) := by decide +kernel
theorem dL_fills_10 : decode cL_fills 10 = .ok (.invokestatic 153, 3) := by decide +kernel
theorem dL_fills_13 : decode cL_fills 13 = .ok (.istore_n 3, 1) := by decide +kernel
theorem dL_fills_14 : decode cL_fills 14 = .ok (.iload_n 2, 1) := by decide +kernel
theorem dL_fills_15 : decode cL_fills 15 = .ok (.iload_n 3, 1) := by decide +kernel
theorem dL_fills_16 : decode cL_fills 16 = .ok (.imul, 1) := by decide +kernel
theorem dL_fills_17 : decode cL_fills 17 = .ok (.newarray .int, 2) := by decide +kernel
theorem dL_fills_19 : decode cL_fills 19 = .ok (.astore 4, 2) := by decide +kernel
theorem dL_fills_21 : decode cL_fills 21 = .ok (.iload_n 2, 1) := by decide +kernel
theorem dL_fills_22 : decode cL_fills 22 = .ok (.iload_n 3, 1) := by decide +kernel
theorem dL_fills_23 : decode cL_fills 23 = .ok (.imul, 1) := by decide +kernel
theorem dL_fills_24 : decode cL_fills 24 = .ok (.newarray .int, 2) := by decide +kernel
theorem dL_fills_26 : decode cL_fills 26 = .ok (.astore 5, 2) := by decide +kernel
theorem dL_fills_28 : decode cL_fills 28 = .ok (.iconst 0, 1) := by decide +kernel
theorem dL_fills_29 : decode cL_fills 29 = .ok (.istore 6, 2) := by decide +kernel
theorem dL_fills_31 : decode cL_fills 31 = .ok (.iconst 0, 1) := by decide +kernel
theorem dL_fills_32 : decode cL_fills 32 = .ok (.istore 7, 2) := by decide +kernel
theorem dL_fills_34 : decode cL_fills 34 = .ok (.iload 7, 2) := by decide +kernel
theorem dL_fills_36 : decode cL_fills 36 = .ok (.aload 4, 2) := by decide +kernel
theorem dL_fills_38 : decode cL_fills 38 = .ok (.arraylength, 1) := by decide +kernel
theorem dL_fills_39 : decode cL_fills 39 = .ok (.if_icmp .ge 101, 3) := by decide +kernel
theorem dL_fills_42 : decode cL_fills 42 = .ok (.aload 5, 2) := by decide +kernel
theorem dL_fills_44 : decode cL_fills 44 = .ok (.iload 7, 2) := by decide +kernel
theorem dL_fills_46 : decode cL_fills 46 = .ok (.aload_n 0, 1) := by decide +kernel
theorem dL_fills_47 : decode cL_fills 47 = .ok (.iload_n 1, 1) := by decide +kernel
theorem dL_fills_48 : decode cL_fills 48 = .ok (.iload 7, 2) := by decide +kernel
theorem dL_fills_50 : decode cL_fills 50 = .ok (.iload_n 3, 1) := by decide +kernel
theorem dL_fills_51 : decode cL_fills 51 = .ok (.idiv, 1) := by decide +kernel
theorem dL_fills_52 : decode cL_fills 52 = .ok (.iload 7, 2) := by decide +kernel
theorem dL_fills_54 : decode cL_fills 54 = .ok (.iload_n 3, 1) := by decide +kernel
theorem dL_fills_55 : decode cL_fills 55 = .ok (.irem, 1) := by decide +kernel
theorem dL_fills_56 : decode cL_fills 56 = .ok (.invokestatic 195, 3) := by decide +kernel
theorem dL_fills_59 : decode cL_fills 59 = .ok (.iastore, 1) := by decide +kernel
theorem dL_fills_60 : decode cL_fills 60 = .ok (.aload 4, 2) := by decide +kernel
theorem dL_fills_62 : decode cL_fills 62 = .ok (.iload 7, 2) := by decide +kernel
theorem dL_fills_64 : decode cL_fills 64 = .ok (.aload_n 0, 1) := by decide +kernel
theorem dL_fills_65 : decode cL_fills 65 = .ok (.iload_n 1, 1) := by decide +kernel
theorem dL_fills_66 : decode cL_fills 66 = .ok (.iload 7, 2) := by decide +kernel
theorem dL_fills_68 : decode cL_fills 68 = .ok (.iload_n 3, 1) := by decide +kernel
theorem dL_fills_69 : decode cL_fills 69 = .ok (.idiv, 1) := by decide +kernel
theorem dL_fills_70 : decode cL_fills 70 = .ok (.iload 7, 2) := by decide +kernel
theorem dL_fills_72 : decode cL_fills 72 = .ok (.iload_n 3, 1) := by decide +kernel
theorem dL_fills_73 : decode cL_fills 73 = .ok (.irem, 1) := by decide +kernel
theorem dL_fills_74 : decode cL_fills 74 = .ok (.invokestatic 270, 3) := by decide +kernel
theorem dL_fills_77 : decode cL_fills 77 = .ok (.iastore, 1) := by decide +kernel
theorem dL_fills_78 : decode cL_fills 78 = .ok (.iload 6, 2) := by decide +kernel
theorem dL_fills_80 : decode cL_fills 80 = .ok (.aload 4, 2) := by decide +kernel
theorem dL_fills_82 : decode cL_fills 82 = .ok (.iload 7, 2) := by decide +kernel
theorem dL_fills_84 : decode cL_fills 84 = .ok (.iaload, 1) := by decide +kernel
theorem dL_fills_85 : decode cL_fills 85 = .ok (.ifCond .lt 7, 3) := by decide +kernel
theorem dL_fills_88 : decode cL_fills 88 = .ok (.iconst 1, 1) := by decide +kernel
theorem dL_fills_89 : decode cL_fills 89 = .ok (.goto 4, 3) := by decide +kernel
theorem dL_fills_92 : decode cL_fills 92 = .ok (.iconst 0, 1) := by decide +kernel
theorem dL_fills_93 : decode cL_fills 93 = .ok (.iadd, 1) := by decide +kernel
theorem dL_fills_94 : decode cL_fills 94 = .ok (.istore 6, 2) := by decide +kernel
theorem dL_fills_96 : decode cL_fills 96 = .ok (.aload 4, 2) := by decide +kernel
theorem dL_fills_98 : decode cL_fills 98 = .ok (.iload 7, 2) := by decide +kernel
theorem dL_fills_100 : decode cL_fills 100 = .ok (.iaload, 1) := by decide +kernel
theorem dL_fills_101 : decode cL_fills 101 = .ok (.ifCond .lt 11, 3) := by decide +kernel
theorem dL_fills_104 : decode cL_fills 104 = .ok (.aload 5, 2) := by decide +kernel
theorem dL_fills_106 : decode cL_fills 106 = .ok (.iload 7, 2) := by decide +kernel
theorem dL_fills_108 : decode cL_fills 108 = .ok (.iaload, 1) := by decide +kernel
theorem dL_fills_109 : decode cL_fills 109 = .ok (.ifCond .ge 23, 3) := by decide +kernel
theorem dL_fills_112 : decode cL_fills 112 = .ok (.aload 4, 2) := by decide +kernel
theorem dL_fills_114 : decode cL_fills 114 = .ok (.iload 7, 2) := by decide +kernel
theorem dL_fills_116 : decode cL_fills 116 = .ok (.iaload, 1) := by decide +kernel
theorem dL_fills_117 : decode cL_fills 117 = .ok (.bipush 9, 2) := by decide +kernel
theorem dL_fills_119 : decode cL_fills 119 = .ok (.if_icmp .gt 13, 3) := by decide +kernel
theorem dL_fills_122 : decode cL_fills 122 = .ok (.aload 4, 2) := by decide +kernel
theorem dL_fills_124 : decode cL_fills 124 = .ok (.iload 7, 2) := by decide +kernel
theorem dL_fills_126 : decode cL_fills 126 = .ok (.iaload, 1) := by decide +kernel
theorem dL_fills_127 : decode cL_fills 127 = .ok (.bipush (-11), 2) := by decide +kernel
theorem dL_fills_129 : decode cL_fills 129 = .ok (.if_icmp .ne 5, 3) := by decide +kernel
theorem dL_fills_132 : decode cL_fills 132 = .ok (.iconst 0, 1) := by decide +kernel
theorem dL_fills_133 : decode cL_fills 133 = .ok (.ireturn, 1) := by decide +kernel
theorem dL_fills_134 : decode cL_fills 134 = .ok (.iinc 7 1, 3) := by decide +kernel
theorem dL_fills_137 : decode cL_fills 137 = .ok (.goto (-103), 3) := by decide +kernel
theorem dL_fills_140 : decode cL_fills 140 = .ok (.aload_n 0, 1) := by decide +kernel
theorem dL_fills_141 : decode cL_fills 141 = .ok (.iload_n 1, 1) := by decide +kernel
theorem dL_fills_142 : decode cL_fills 142 = .ok (.bipush 6, 2) := by decide +kernel
theorem dL_fills_144 : decode cL_fills 144 = .ok (.invokestatic 153, 3) := by decide +kernel
theorem dL_fills_147 : decode cL_fills 147 = .ok (.istore 7, 2) := by decide +kernel
theorem dL_fills_149 : decode cL_fills 149 = .ok (.aload_n 0, 1) := by decide +kernel
theorem dL_fills_150 : decode cL_fills 150 = .ok (.iload_n 1, 1) := by decide +kernel
theorem dL_fills_151 : decode cL_fills 151 = .ok (.invokestatic 165, 3) := by decide +kernel
theorem dL_fills_154 : decode cL_fills 154 = .ok (.istore 8, 2) := by decide +kernel
theorem dL_fills_156 : decode cL_fills 156 = .ok (.aload_n 0, 1) := by decide +kernel
theorem dL_fills_157 : decode cL_fills 157 = .ok (.iload_n 1, 1) := by decide +kernel
theorem dL_fills_158 : decode cL_fills 158 = .ok (.iconst 2, 1) := by decide +kernel
theorem dL_fills_159 : decode cL_fills 159 = .ok (.invokestatic 153, 3) := by decide +kernel
theorem dL_fills_162 : decode cL_fills 162 = .ok (.ifCond .ne 21, 3) := by decide +kernel
theorem dL_fills_165 : decode cL_fills 165 = .ok (.iload 8, 2) := by decide +kernel
theorem dL_fills_167 : decode cL_fills 167 = .ok (.bipush (-2), 2) := by decide +kernel
theorem dL_fills_169 : decode cL_fills 169 = .ok (.if_icmp .ne 12, 3) := by decide +kernel
theorem dL_fills_172 : decode cL_fills 172 = .ok (.iload 6, 2) := by decide +kernel
theorem dL_fills_174 : decode cL_fills 174 = .ok (.ifCond .ne 7, 3) := by decide +kernel
theorem dL_fills_177 : decode cL_fills 177 = .ok (.iconst 1, 1) := by decide +kernel
theorem dL_fills_178 : decode cL_fills 178 = .ok (.goto 4, 3) := by decide +kernel
theorem dL_fills_181 : decode cL_fills 181 = .ok (.iconst 0, 1) := by decide +kernel
theorem dL_fills_182 : decode cL_fills 182 = .ok (.ireturn, 1) := by decide +kernel
theorem dL_fills_183 : decode cL_fills 183 = .ok (.iload 8, 2) := by decide +kernel
theorem dL_fills_185 : decode cL_fills 185 = .ok (.iload 6, 2) := by decide +kernel
theorem dL_fills_187 : decode cL_fills 187 = .ok (.if_icmp .ne 18, 3) := by decide +kernel
theorem dL_fills_190 : decode cL_fills 190 = .ok (.aload_n 0, 1) := by decide +kernel
theorem dL_fills_191 : decode cL_fills 191 = .ok (.iload_n 1, 1) := by decide +kernel
theorem dL_fills_192 : decode cL_fills 192 = .ok (.bipush 6, 2) := by decide +kernel
theorem dL_fills_194 : decode cL_fills 194 = .ok (.invokestatic 153, 3) := by decide +kernel
theorem dL_fills_197 : decode cL_fills 197 = .ok (.iload 7, 2) := by decide +kernel
theorem dL_fills_199 : decode cL_fills 199 = .ok (.iload 6, 2) := by decide +kernel
theorem dL_fills_201 : decode cL_fills 201 = .ok (.iadd, 1) := by decide +kernel
theorem dL_fills_202 : decode cL_fills 202 = .ok (.if_icmp .eq 5, 3) := by decide +kernel
theorem dL_fills_205 : decode cL_fills 205 = .ok (.iconst 0, 1) := by decide +kernel
theorem dL_fills_206 : decode cL_fills 206 = .ok (.ireturn, 1) := by decide +kernel
theorem dL_fills_207 : decode cL_fills 207 = .ok (.iconst 0, 1) := by decide +kernel
theorem dL_fills_208 : decode cL_fills 208 = .ok (.istore 9, 2) := by decide +kernel
theorem dL_fills_210 : decode cL_fills 210 = .ok (.iload 9, 2) := by decide +kernel
theorem dL_fills_212 : decode cL_fills 212 = .ok (.aload 4, 2) := by decide +kernel
theorem dL_fills_214 : decode cL_fills 214 = .ok (.arraylength, 1) := by decide +kernel
theorem dL_fills_215 : decode cL_fills 215 = .ok (.if_icmp .ge 60, 3) := by decide +kernel
theorem dL_fills_218 : decode cL_fills 218 = .ok (.aload_n 0, 1) := by decide +kernel
theorem dL_fills_219 : decode cL_fills 219 = .ok (.iload_n 1, 1) := by decide +kernel
theorem dL_fills_220 : decode cL_fills 220 = .ok (.iload 9, 2) := by decide +kernel
theorem dL_fills_222 : decode cL_fills 222 = .ok (.iload_n 3, 1) := by decide +kernel
theorem dL_fills_223 : decode cL_fills 223 = .ok (.idiv, 1) := by decide +kernel
theorem dL_fills_224 : decode cL_fills 224 = .ok (.iload 9, 2) := by decide +kernel
theorem dL_fills_226 : decode cL_fills 226 = .ok (.iload_n 3, 1) := by decide +kernel
theorem dL_fills_227 : decode cL_fills 227 = .ok (.irem, 1) := by decide +kernel
theorem dL_fills_228 : decode cL_fills 228 = .ok (.invokestatic 195, 3) := by decide +kernel
theorem dL_fills_231 : decode cL_fills 231 = .ok (.aload 5, 2) := by decide +kernel
theorem dL_fills_233 : decode cL_fills 233 = .ok (.iload 9, 2) := by decide +kernel
theorem dL_fills_235 : decode cL_fills 235 = .ok (.iaload, 1) := by decide +kernel
theorem dL_fills_236 : decode cL_fills 236 = .ok (.ifCond .lt 11, 3) := by decide +kernel
theorem dL_fills_239 : decode cL_fills 239 = .ok (.aload 5, 2) := by decide +kernel
theorem dL_fills_241 : decode cL_fills 241 = .ok (.iload 9, 2) := by decide +kernel
theorem dL_fills_243 : decode cL_fills 243 = .ok (.iaload, 1) := by decide +kernel
theorem dL_fills_244 : decode cL_fills 244 = .ok (.goto 20, 3) := by decide +kernel
theorem dL_fills_247 : decode cL_fills 247 = .ok (.aload 4, 2) := by decide +kernel
theorem dL_fills_249 : decode cL_fills 249 = .ok (.iload 9, 2) := by decide +kernel
theorem dL_fills_251 : decode cL_fills 251 = .ok (.iaload, 1) := by decide +kernel
theorem dL_fills_252 : decode cL_fills 252 = .ok (.ifCond .lt 11, 3) := by decide +kernel
theorem dL_fills_255 : decode cL_fills 255 = .ok (.aload 4, 2) := by decide +kernel
theorem dL_fills_257 : decode cL_fills 257 = .ok (.iload 9, 2) := by decide +kernel
theorem dL_fills_259 : decode cL_fills 259 = .ok (.iaload, 1) := by decide +kernel
theorem dL_fills_260 : decode cL_fills 260 = .ok (.goto 4, 3) := by decide +kernel
theorem dL_fills_263 : decode cL_fills 263 = .ok (.iconst (-1), 1) := by decide +kernel
theorem dL_fills_264 : decode cL_fills 264 = .ok (.if_icmp .eq 5, 3) := by decide +kernel
theorem dL_fills_267 : decode cL_fills 267 = .ok (.iconst 0, 1) := by decide +kernel
theorem dL_fills_268 : decode cL_fills 268 = .ok (.ireturn, 1) := by decide +kernel
theorem dL_fills_269 : decode cL_fills 269 = .ok (.iinc 9 1, 3) := by decide +kernel
theorem dL_fills_272 : decode cL_fills 272 = .ok (.goto (-62), 3) := by decide +kernel
theorem dL_fills_275 : decode cL_fills 275 = .ok (.aload_n 0, 1) := by decide +kernel
theorem dL_fills_276 : decode cL_fills 276 = .ok (.invokevirtual 272, 3) := by decide +kernel
theorem dL_fills_279 : decode cL_fills 279 = .ok (.ifCond .eq 26, 3) := by decide +kernel
theorem dL_fills_282 : decode cL_fills 282 = .ok (.aload_n 0, 1) := by decide +kernel
theorem dL_fills_283 : decode cL_fills 283 = .ok (.invokestatic 276, 3) := by decide +kernel
theorem dL_fills_286 : decode cL_fills 286 = .ok (.ifCond .lt 19, 3) := by decide +kernel
theorem dL_fills_289 : decode cL_fills 289 = .ok (.aload_n 0, 1) := by decide +kernel
theorem dL_fills_290 : decode cL_fills 290 = .ok (.iload_n 1, 1) := by decide +kernel
theorem dL_fills_291 : decode cL_fills 291 = .ok (.bipush 6, 2) := by decide +kernel
theorem dL_fills_293 : decode cL_fills 293 = .ok (.invokestatic 153, 3) := by decide +kernel
theorem dL_fills_296 : decode cL_fills 296 = .ok (.iload 7, 2) := by decide +kernel
theorem dL_fills_298 : decode cL_fills 298 = .ok (.if_icmp .ne 7, 3) := by decide +kernel
theorem dL_fills_301 : decode cL_fills 301 = .ok (.iconst 1, 1) := by decide +kernel
theorem dL_fills_302 : decode cL_fills 302 = .ok (.goto 4, 3) := by decide +kernel
theorem dL_fills_305 : decode cL_fills 305 = .ok (.iconst 0, 1) := by decide +kernel
theorem dL_fills_306 : decode cL_fills 306 = .ok (.ireturn, 1) := by decide +kernel
theorem dL_accounts_0 : decode cL_accounts 0 = .ok (.iconst 0, 1) := by decide +kernel
theorem dL_accounts_1 : decode cL_accounts 1 = .ok (.istore_n 1, 1) := by decide +kernel
theorem dL_accounts_2 : decode cL_accounts 2 = .ok (.iconst 0, 1) := by decide +kernel
theorem dL_accounts_3 : decode cL_accounts 3 = .ok (.istore_n 2, 1) := by decide +kernel
theorem dL_accounts_4 : decode cL_accounts 4 = .ok (.iconst 0, 1) := by decide +kernel
theorem dL_accounts_5 : decode cL_accounts 5 = .ok (.istore_n 3, 1) := by decide +kernel
theorem dL_accounts_6 : decode cL_accounts 6 = .ok (.iconst 0, 1) := by decide +kernel
theorem dL_accounts_7 : decode cL_accounts 7 = .ok (.istore 4, 2) := by decide +kernel
theorem dL_accounts_9 : decode cL_accounts 9 = .ok (.iconst 0, 1) := by decide +kernel
theorem dL_accounts_10 : decode cL_accounts 10 = .ok (.istore 5, 2) := by decide +kernel
theorem dL_accounts_12 : decode cL_accounts 12 = .ok (.iconst 0, 1) := by decide +kernel
theorem dL_accounts_13 : decode cL_accounts 13 = .ok (.istore 6, 2) := by decide +kernel
theorem dL_accounts_15 : decode cL_accounts 15 = .ok (.iconst 0, 1) := by decide +kernel
theorem dL_accounts_16 : decode cL_accounts 16 = .ok (.istore 7, 2) := by decide +kernel
theorem dL_accounts_18 : decode cL_accounts 18 = .ok (.iconst 0, 1) := by decide +kernel
theorem dL_accounts_19 : decode cL_accounts 19 = .ok (.istore 8, 2) := by decide +kernel
theorem dL_accounts_21 : decode cL_accounts 21 = .ok (.iload 8, 2) := by decide +kernel
theorem dL_accounts_23 : decode cL_accounts 23 = .ok (.aload_n 0, 1) := by decide +kernel
theorem dL_accounts_24 : decode cL_accounts 24 = .ok (.iconst 0, 1) := by decide +kernel
theorem dL_accounts_25 : decode cL_accounts 25 = .ok (.invokevirtual 150, 3) := by decide +kernel
theorem dL_accounts_28 : decode cL_accounts 28 = .ok (.if_icmp .ge 117, 3) := by decide +kernel
theorem dL_accounts_31 : decode cL_accounts 31 = .ok (.iload_n 1, 1) := by decide +kernel
theorem dL_accounts_32 : decode cL_accounts 32 = .ok (.aload_n 0, 1) := by decide +kernel
theorem dL_accounts_33 : decode cL_accounts 33 = .ok (.iload 8, 2) := by decide +kernel
theorem dL_accounts_35 : decode cL_accounts 35 = .ok (.iconst 2, 1) := by decide +kernel
theorem dL_accounts_36 : decode cL_accounts 36 = .ok (.invokestatic 153, 3) := by decide +kernel
theorem dL_accounts_39 : decode cL_accounts 39 = .ok (.iadd, 1) := by decide +kernel
theorem dL_accounts_40 : decode cL_accounts 40 = .ok (.istore_n 1, 1) := by decide +kernel
theorem dL_accounts_41 : decode cL_accounts 41 = .ok (.iload_n 2, 1) := by decide +kernel
theorem dL_accounts_42 : decode cL_accounts 42 = .ok (.aload_n 0, 1) := by decide +kernel
theorem dL_accounts_43 : decode cL_accounts 43 = .ok (.iload 8, 2) := by decide +kernel
theorem dL_accounts_45 : decode cL_accounts 45 = .ok (.iconst 3, 1) := by decide +kernel
theorem dL_accounts_46 : decode cL_accounts 46 = .ok (.invokestatic 153, 3) := by decide +kernel
theorem dL_accounts_49 : decode cL_accounts 49 = .ok (.ifCond .ge 7, 3) := by decide +kernel
theorem dL_accounts_52 : decode cL_accounts 52 = .ok (.iconst 0, 1) := by decide +kernel
theorem dL_accounts_53 : decode cL_accounts 53 = .ok (.goto 4, 3) := by decide +kernel
theorem dL_accounts_56 : decode cL_accounts 56 = .ok (.iconst 1, 1) := by decide +kernel
theorem dL_accounts_57 : decode cL_accounts 57 = .ok (.iadd, 1) := by decide +kernel
theorem dL_accounts_58 : decode cL_accounts 58 = .ok (.istore_n 2, 1) := by decide +kernel
theorem dL_accounts_59 : decode cL_accounts 59 = .ok (.iload_n 3, 1) := by decide +kernel
theorem dL_accounts_60 : decode cL_accounts 60 = .ok (.aload_n 0, 1) := by decide +kernel
theorem dL_accounts_61 : decode cL_accounts 61 = .ok (.iload 8, 2) := by decide +kernel
theorem dL_accounts_63 : decode cL_accounts 63 = .ok (.iconst 0, 1) := by decide +kernel
theorem dL_accounts_64 : decode cL_accounts 64 = .ok (.invokestatic 153, 3) := by decide +kernel
theorem dL_accounts_67 : decode cL_accounts 67 = .ok (.aload_n 0, 1) := by decide +kernel
theorem dL_accounts_68 : decode cL_accounts 68 = .ok (.iload 8, 2) := by decide +kernel
theorem dL_accounts_70 : decode cL_accounts 70 = .ok (.iconst 1, 1) := by decide +kernel
theorem dL_accounts_71 : decode cL_accounts 71 = .ok (.invokestatic 153, 3) := by decide +kernel
theorem dL_accounts_74 : decode cL_accounts 74 = .ok (.imul, 1) := by decide +kernel
theorem dL_accounts_75 : decode cL_accounts 75 = .ok (.iadd, 1) := by decide +kernel
theorem dL_accounts_76 : decode cL_accounts 76 = .ok (.istore_n 3, 1) := by decide +kernel
theorem dL_accounts_77 : decode cL_accounts 77 = .ok (.iload 4, 2) := by decide +kernel
theorem dL_accounts_79 : decode cL_accounts 79 = .ok (.aload_n 0, 1) := by decide +kernel
theorem dL_accounts_80 : decode cL_accounts 80 = .ok (.iload 8, 2) := by decide +kernel
theorem dL_accounts_82 : decode cL_accounts 82 = .ok (.iconst 4, 1) := by decide +kernel
theorem dL_accounts_83 : decode cL_accounts 83 = .ok (.invokestatic 153, 3) := by decide +kernel
theorem dL_accounts_86 : decode cL_accounts 86 = .ok (.iadd, 1) := by decide +kernel
theorem dL_accounts_87 : decode cL_accounts 87 = .ok (.istore 4, 2) := by decide +kernel
theorem dL_accounts_89 : decode cL_accounts 89 = .ok (.iload 5, 2) := by decide +kernel
theorem dL_accounts_91 : decode cL_accounts 91 = .ok (.aload_n 0, 1) := by decide +kernel
theorem dL_accounts_92 : decode cL_accounts 92 = .ok (.iload 8, 2) := by decide +kernel
theorem dL_accounts_94 : decode cL_accounts 94 = .ok (.invokestatic 230, 3) := by decide +kernel
theorem dL_accounts_97 : decode cL_accounts 97 = .ok (.iadd, 1) := by decide +kernel
theorem dL_accounts_98 : decode cL_accounts 98 = .ok (.istore 5, 2) := by decide +kernel
theorem dL_accounts_100 : decode cL_accounts 100 = .ok (.iload 6, 2) := by decide +kernel
theorem dL_accounts_102 : decode cL_accounts 102 = .ok (.aload_n 0, 1) := by decide +kernel
theorem dL_accounts_103 : decode cL_accounts 103 = .ok (.iload 8, 2) := by decide +kernel
theorem dL_accounts_105 : decode cL_accounts 105 = .ok (.iconst 5, 1) := by decide +kernel
theorem dL_accounts_106 : decode cL_accounts 106 = .ok (.invokestatic 153, 3) := by decide +kernel
theorem dL_accounts_109 : decode cL_accounts 109 = .ok (.iadd, 1) := by decide +kernel
theorem dL_accounts_110 : decode cL_accounts 110 = .ok (.istore 6, 2) := by decide +kernel
theorem dL_accounts_112 : decode cL_accounts 112 = .ok (.iload 7, 2) := by decide +kernel
theorem dL_accounts_114 : decode cL_accounts 114 = .ok (.aload_n 0, 1) := by decide +kernel
theorem dL_accounts_115 : decode cL_accounts 115 = .ok (.iload 8, 2) := by decide +kernel
theorem dL_accounts_117 : decode cL_accounts 117 = .ok (.bipush 6, 2) := by decide +kernel
theorem dL_accounts_119 : decode cL_accounts 119 = .ok (.invokestatic 153, 3) := by decide +kernel
theorem dL_accounts_122 : decode cL_accounts 122 = .ok (.iadd, 1) := by decide +kernel
theorem dL_accounts_123 : decode cL_accounts 123 = .ok (.istore 7, 2) := by decide +kernel
theorem dL_accounts_125 : decode cL_accounts 125 = .ok (.aload_n 0, 1) := by decide +kernel
theorem dL_accounts_126 : decode cL_accounts 126 = .ok (.iload 8, 2) := by decide +kernel
theorem dL_accounts_128 : decode cL_accounts 128 = .ok (.iconst 3, 1) := by decide +kernel
theorem dL_accounts_129 : decode cL_accounts 129 = .ok (.invokestatic 153, 3) := by decide +kernel
theorem dL_accounts_132 : decode cL_accounts 132 = .ok (.iload 8, 2) := by decide +kernel
theorem dL_accounts_134 : decode cL_accounts 134 = .ok (.if_icmp .lt 5, 3) := by decide +kernel
theorem dL_accounts_137 : decode cL_accounts 137 = .ok (.iconst 0, 1) := by decide +kernel
theorem dL_accounts_138 : decode cL_accounts 138 = .ok (.ireturn, 1) := by decide +kernel
theorem dL_accounts_139 : decode cL_accounts 139 = .ok (.iinc 8 1, 3) := by decide +kernel
theorem dL_accounts_142 : decode cL_accounts 142 = .ok (.goto (-121), 3) := by decide +kernel
theorem dL_accounts_145 : decode cL_accounts 145 = .ok (.aload_n 0, 1) := by decide +kernel
theorem dL_accounts_146 : decode cL_accounts 146 = .ok (.iconst 1, 1) := by decide +kernel
theorem dL_accounts_147 : decode cL_accounts 147 = .ok (.invokevirtual 150, 3) := by decide +kernel
theorem dL_accounts_150 : decode cL_accounts 150 = .ok (.iload_n 1, 1) := by decide +kernel
theorem dL_accounts_151 : decode cL_accounts 151 = .ok (.if_icmp .ne 74, 3) := by decide +kernel
theorem dL_accounts_154 : decode cL_accounts 154 = .ok (.aload_n 0, 1) := by decide +kernel
theorem dL_accounts_155 : decode cL_accounts 155 = .ok (.iconst 2, 1) := by decide +kernel
theorem dL_accounts_156 : decode cL_accounts 156 = .ok (.invokevirtual 150, 3) := by decide +kernel
theorem dL_accounts_159 : decode cL_accounts 159 = .ok (.iload_n 2, 1) := by decide +kernel
theorem dL_accounts_160 : decode cL_accounts 160 = .ok (.if_icmp .ne 65, 3) := by decide +kernel
theorem dL_accounts_163 : decode cL_accounts 163 = .ok (.aload_n 0, 1) := by decide +kernel
theorem dL_accounts_164 : decode cL_accounts 164 = .ok (.iconst 3, 1) := by decide +kernel
theorem dL_accounts_165 : decode cL_accounts 165 = .ok (.invokevirtual 150, 3) := by decide +kernel
theorem dL_accounts_168 : decode cL_accounts 168 = .ok (.iload_n 3, 1) := by decide +kernel
theorem dL_accounts_169 : decode cL_accounts 169 = .ok (.if_icmp .ne 56, 3) := by decide +kernel
theorem dL_accounts_172 : decode cL_accounts 172 = .ok (.aload_n 0, 1) := by decide +kernel
theorem dL_accounts_173 : decode cL_accounts 173 = .ok (.iconst 4, 1) := by decide +kernel
theorem dL_accounts_174 : decode cL_accounts 174 = .ok (.invokevirtual 150, 3) := by decide +kernel
theorem dL_accounts_177 : decode cL_accounts 177 = .ok (.iload 4, 2) := by decide +kernel
theorem dL_accounts_179 : decode cL_accounts 179 = .ok (.if_icmp .ne 46, 3) := by decide +kernel
theorem dL_accounts_182 : decode cL_accounts 182 = .ok (.aload_n 0, 1) := by decide +kernel
theorem dL_accounts_183 : decode cL_accounts 183 = .ok (.iconst 5, 1) := by decide +kernel
theorem dL_accounts_184 : decode cL_accounts 184 = .ok (.invokevirtual 150, 3) := by decide +kernel
theorem dL_accounts_187 : decode cL_accounts 187 = .ok (.iload 5, 2) := by decide +kernel
theorem dL_accounts_189 : decode cL_accounts 189 = .ok (.if_icmp .ne 36, 3) := by decide +kernel
theorem dL_accounts_192 : decode cL_accounts 192 = .ok (.aload_n 0, 1) := by decide +kernel
theorem dL_accounts_193 : decode cL_accounts 193 = .ok (.bipush 8, 2) := by decide +kernel
theorem dL_accounts_195 : decode cL_accounts 195 = .ok (.invokevirtual 150, 3) := by decide +kernel
theorem dL_accounts_198 : decode cL_accounts 198 = .ok (.iload 6, 2) := by decide +kernel
theorem dL_accounts_200 : decode cL_accounts 200 = .ok (.if_icmp .ne 25, 3) := by decide +kernel
theorem dL_accounts_203 : decode cL_accounts 203 = .ok (.aload_n 0, 1) := by decide +kernel
theorem dL_accounts_204 : decode cL_accounts 204 = .ok (.bipush 9, 2) := by decide +kernel
theorem dL_accounts_206 : decode cL_accounts 206 = .ok (.invokevirtual 150, 3) := by decide +kernel
theorem dL_accounts_209 : decode cL_accounts 209 = .ok (.iload 7, 2) := by decide +kernel
theorem dL_accounts_211 : decode cL_accounts 211 = .ok (.if_icmp .ne 14, 3) := by decide +kernel
theorem dL_accounts_214 : decode cL_accounts 214 = .ok (.aload_n 0, 1) := by decide +kernel
theorem dL_accounts_215 : decode cL_accounts 215 = .ok (.invokevirtual 272, 3) := by decide +kernel
theorem dL_accounts_218 : decode cL_accounts 218 = .ok (.ifCond .eq 7, 3) := by decide +kernel
theorem dL_accounts_221 : decode cL_accounts 221 = .ok (.iconst 1, 1) := by decide +kernel
theorem dL_accounts_222 : decode cL_accounts 222 = .ok (.goto 4, 3) := by decide +kernel
theorem dL_accounts_225 : decode cL_accounts 225 = .ok (.iconst 0, 1) := by decide +kernel
theorem dL_accounts_226 : decode cL_accounts 226 = .ok (.ireturn, 1) := by decide +kernel
theorem dL_ranks_0 : decode cL_ranks 0 = .ok (.iconst (-1), 1) := by decide +kernel
theorem dL_ranks_1 : decode cL_ranks 1 = .ok (.istore_n 1, 1) := by decide +kernel
theorem dL_ranks_2 : decode cL_ranks 2 = .ok (.iconst (-1), 1) := by decide +kernel
theorem dL_ranks_3 : decode cL_ranks 3 = .ok (.istore_n 2, 1) := by decide +kernel
theorem dL_ranks_4 : decode cL_ranks 4 = .ok (.iconst 0, 1) := by decide +kernel
theorem dL_ranks_5 : decode cL_ranks 5 = .ok (.istore_n 3, 1) := by decide +kernel
theorem dL_ranks_6 : decode cL_ranks 6 = .ok (.iload_n 3, 1) := by decide +kernel
theorem dL_ranks_7 : decode cL_ranks 7 = .ok (.aload_n 0, 1) := by decide +kernel
theorem dL_ranks_8 : decode cL_ranks 8 = .ok (.iconst 0, 1) := by decide +kernel
theorem dL_ranks_9 : decode cL_ranks 9 = .ok (.invokevirtual 150, 3) := by decide +kernel
theorem dL_ranks_12 : decode cL_ranks 12 = .ok (.if_icmp .ge 86, 3) := by decide +kernel
theorem dL_ranks_15 : decode cL_ranks 15 = .ok (.aload_n 0, 1) := by decide +kernel
theorem dL_ranks_16 : decode cL_ranks 16 = .ok (.iload_n 3, 1) := by decide +kernel
theorem dL_ranks_17 : decode cL_ranks 17 = .ok (.invokestatic 278, 3) := by decide +kernel
theorem dL_ranks_20 : decode cL_ranks 20 = .ok (.istore 4, 2) := by decide +kernel
theorem dL_ranks_22 : decode cL_ranks 22 = .ok (.iload 4, 2) := by decide +kernel
theorem dL_ranks_24 : decode cL_ranks 24 = .ok (.ifCond .ge 7, 3) := by decide +kernel
theorem dL_ranks_27 : decode cL_ranks 27 = .ok (.iconst (-1), 1) := by decide +kernel
theorem dL_ranks_28 : decode cL_ranks 28 = .ok (.goto 31, 3) := by decide +kernel
theorem dL_ranks_31 : decode cL_ranks 31 = .ok (.bipush 100, 2) := by decide +kernel
theorem dL_ranks_33 : decode cL_ranks 33 = .ok (.aload_n 0, 1) := by decide +kernel
theorem dL_ranks_34 : decode cL_ranks 34 = .ok (.iload 4, 2) := by decide +kernel
theorem dL_ranks_36 : decode cL_ranks 36 = .ok (.invokestatic 230, 3) := by decide +kernel
theorem dL_ranks_39 : decode cL_ranks 39 = .ok (.imul, 1) := by decide +kernel
theorem dL_ranks_40 : decode cL_ranks 40 = .ok (.bipush 50, 2) := by decide +kernel
theorem dL_ranks_42 : decode cL_ranks 42 = .ok (.iadd, 1) := by decide +kernel
theorem dL_ranks_43 : decode cL_ranks 43 = .ok (.aload_n 0, 1) := by decide +kernel
theorem dL_ranks_44 : decode cL_ranks 44 = .ok (.iload 4, 2) := by decide +kernel
theorem dL_ranks_46 : decode cL_ranks 46 = .ok (.iconst 0, 1) := by decide +kernel
theorem dL_ranks_47 : decode cL_ranks 47 = .ok (.invokestatic 153, 3) := by decide +kernel
theorem dL_ranks_50 : decode cL_ranks 50 = .ok (.aload_n 0, 1) := by decide +kernel
theorem dL_ranks_51 : decode cL_ranks 51 = .ok (.iload 4, 2) := by decide +kernel
theorem dL_ranks_53 : decode cL_ranks 53 = .ok (.iconst 1, 1) := by decide +kernel
theorem dL_ranks_54 : decode cL_ranks 54 = .ok (.invokestatic 153, 3) := by decide +kernel
theorem dL_ranks_57 : decode cL_ranks 57 = .ok (.imul, 1) := by decide +kernel
theorem dL_ranks_58 : decode cL_ranks 58 = .ok (.isub, 1) := by decide +kernel
theorem dL_ranks_59 : decode cL_ranks 59 = .ok (.istore 5, 2) := by decide +kernel
theorem dL_ranks_61 : decode cL_ranks 61 = .ok (.iload 4, 2) := by decide +kernel
theorem dL_ranks_63 : decode cL_ranks 63 = .ok (.ifCond .lt 21, 3) := by decide +kernel
theorem dL_ranks_66 : decode cL_ranks 66 = .ok (.iload 5, 2) := by decide +kernel
theorem dL_ranks_68 : decode cL_ranks 68 = .ok (.iload_n 1, 1) := by decide +kernel
theorem dL_ranks_69 : decode cL_ranks 69 = .ok (.if_icmp .lt 15, 3) := by decide +kernel
theorem dL_ranks_72 : decode cL_ranks 72 = .ok (.iload 5, 2) := by decide +kernel
theorem dL_ranks_74 : decode cL_ranks 74 = .ok (.iload_n 1, 1) := by decide +kernel
theorem dL_ranks_75 : decode cL_ranks 75 = .ok (.if_icmp .ne 11, 3) := by decide +kernel
theorem dL_ranks_78 : decode cL_ranks 78 = .ok (.iload 4, 2) := by decide +kernel
theorem dL_ranks_80 : decode cL_ranks 80 = .ok (.iload_n 2, 1) := by decide +kernel
theorem dL_ranks_81 : decode cL_ranks 81 = .ok (.if_icmp .ge 5, 3) := by decide +kernel
theorem dL_ranks_84 : decode cL_ranks 84 = .ok (.iconst 0, 1) := by decide +kernel
theorem dL_ranks_85 : decode cL_ranks 85 = .ok (.ireturn, 1) := by decide +kernel
theorem dL_ranks_86 : decode cL_ranks 86 = .ok (.iload 5, 2) := by decide +kernel
theorem dL_ranks_88 : decode cL_ranks 88 = .ok (.istore_n 1, 1) := by decide +kernel
theorem dL_ranks_89 : decode cL_ranks 89 = .ok (.iload 4, 2) := by decide +kernel
theorem dL_ranks_91 : decode cL_ranks 91 = .ok (.istore_n 2, 1) := by decide +kernel
theorem dL_ranks_92 : decode cL_ranks 92 = .ok (.iinc 3 1, 3) := by decide +kernel
theorem dL_ranks_95 : decode cL_ranks 95 = .ok (.goto (-89), 3) := by decide +kernel
theorem dL_ranks_98 : decode cL_ranks 98 = .ok (.iconst 0, 1) := by decide +kernel
theorem dL_ranks_99 : decode cL_ranks 99 = .ok (.istore_n 3, 1) := by decide +kernel
theorem dL_ranks_100 : decode cL_ranks 100 = .ok (.iload_n 3, 1) := by decide +kernel
theorem dL_ranks_101 : decode cL_ranks 101 = .ok (.aload_n 0, 1) := by decide +kernel
theorem dL_ranks_102 : decode cL_ranks 102 = .ok (.iconst 0, 1) := by decide +kernel
theorem dL_ranks_103 : decode cL_ranks 103 = .ok (.invokevirtual 150, 3) := by decide +kernel
theorem dL_ranks_106 : decode cL_ranks 106 = .ok (.if_icmp .ge 186, 3) := by decide +kernel
theorem dL_ranks_109 : decode cL_ranks 109 = .ok (.iconst 0, 1) := by decide +kernel
theorem dL_ranks_110 : decode cL_ranks 110 = .ok (.istore 4, 2) := by decide +kernel
theorem dL_ranks_112 : decode cL_ranks 112 = .ok (.iload 4, 2) := by decide +kernel
theorem dL_ranks_114 : decode cL_ranks 114 = .ok (.aload_n 0, 1) := by decide +kernel
theorem dL_ranks_115 : decode cL_ranks 115 = .ok (.iconst 0, 1) := by decide +kernel
theorem dL_ranks_116 : decode cL_ranks 116 = .ok (.invokevirtual 150, 3) := by decide +kernel
theorem dL_ranks_119 : decode cL_ranks 119 = .ok (.if_icmp .ge 167, 3) := by decide +kernel
theorem dL_ranks_122 : decode cL_ranks 122 = .ok (.aload_n 0, 1) := by decide +kernel
theorem dL_ranks_123 : decode cL_ranks 123 = .ok (.iload_n 3, 1) := by decide +kernel
theorem dL_ranks_124 : decode cL_ranks 124 = .ok (.iconst 0, 1) := by decide +kernel
theorem dL_ranks_125 : decode cL_ranks 125 = .ok (.invokestatic 153, 3) := by decide +kernel
theorem dL_ranks_128 : decode cL_ranks 128 = .ok (.aload_n 0, 1) := by decide +kernel
theorem dL_ranks_129 : decode cL_ranks 129 = .ok (.iload 4, 2) := by decide +kernel
theorem dL_ranks_131 : decode cL_ranks 131 = .ok (.iconst 0, 1) := by decide +kernel
theorem dL_ranks_132 : decode cL_ranks 132 = .ok (.invokestatic 153, 3) := by decide +kernel
theorem dL_ranks_135 : decode cL_ranks 135 = .ok (.if_icmp .ne 23, 3) := by decide +kernel
theorem dL_ranks_138 : decode cL_ranks 138 = .ok (.aload_n 0, 1) := by decide +kernel
theorem dL_ranks_139 : decode cL_ranks 139 = .ok (.iload_n 3, 1) := by decide +kernel
theorem dL_ranks_140 : decode cL_ranks 140 = .ok (.iconst 1, 1) := by decide +kernel
theorem dL_ranks_141 : decode cL_ranks 141 = .ok (.invokestatic 153, 3) := by decide +kernel
theorem dL_ranks_144 : decode cL_ranks 144 = .ok (.aload_n 0, 1) := by decide +kernel
theorem dL_ranks_145 : decode cL_ranks 145 = .ok (.iload 4, 2) := by decide +kernel
theorem dL_ranks_147 : decode cL_ranks 147 = .ok (.iconst 1, 1) := by decide +kernel
theorem dL_ranks_148 : decode cL_ranks 148 = .ok (.invokestatic 153, 3) := by decide +kernel
theorem dL_ranks_151 : decode cL_ranks 151 = .ok (.if_icmp .ne 7, 3) := by decide +kernel
theorem dL_ranks_154 : decode cL_ranks 154 = .ok (.iconst 1, 1) := by decide +kernel
theorem dL_ranks_155 : decode cL_ranks 155 = .ok (.goto 4, 3) := by decide +kernel
theorem dL_ranks_158 : decode cL_ranks 158 = .ok (.iconst 0, 1) := by decide +kernel
theorem dL_ranks_159 : decode cL_ranks 159 = .ok (.istore 5, 2) := by decide +kernel
theorem dL_ranks_161 : decode cL_ranks 161 = .ok (.iload 5, 2) := by decide +kernel
theorem dL_ranks_163 : decode cL_ranks 163 = .ok (.ifCond .eq 7, 3) := by decide +kernel
theorem dL_ranks_166 : decode cL_ranks 166 = .ok (.iconst 0, 1) := by decide +kernel
theorem dL_ranks_167 : decode cL_ranks 167 = .ok (.goto 5, 3) := by decide +kernel
theorem dL_ranks_170 : decode cL_ranks 170 = .ok (.bipush (-12), 2) := by decide +kernel
theorem dL_ranks_172 : decode cL_ranks 172 = .ok (.istore 6, 2) := by decide +kernel
theorem dL_ranks_174 : decode cL_ranks 174 = .ok (.iconst 0, 1) := by decide +kernel
theorem dL_ranks_175 : decode cL_ranks 175 = .ok (.istore 7, 2) := by decide +kernel
theorem dL_ranks_177 : decode cL_ranks 177 = .ok (.iload 5, 2) := by decide +kernel
theorem dL_ranks_179 : decode cL_ranks 179 = .ok (.ifCond .eq 87, 3) := by decide +kernel
theorem dL_ranks_182 : decode cL_ranks 182 = .ok (.iload 7, 2) := by decide +kernel
theorem dL_ranks_184 : decode cL_ranks 184 = .ok (.aload_n 0, 1) := by decide +kernel
theorem dL_ranks_185 : decode cL_ranks 185 = .ok (.iload_n 3, 1) := by decide +kernel
theorem dL_ranks_186 : decode cL_ranks 186 = .ok (.iconst 0, 1) := by decide +kernel
theorem dL_ranks_187 : decode cL_ranks 187 = .ok (.invokestatic 153, 3) := by decide +kernel
theorem dL_ranks_190 : decode cL_ranks 190 = .ok (.aload_n 0, 1) := by decide +kernel
theorem dL_ranks_191 : decode cL_ranks 191 = .ok (.iload_n 3, 1) := by decide +kernel
theorem dL_ranks_192 : decode cL_ranks 192 = .ok (.iconst 1, 1) := by decide +kernel
theorem dL_ranks_193 : decode cL_ranks 193 = .ok (.invokestatic 153, 3) := by decide +kernel
theorem dL_ranks_196 : decode cL_ranks 196 = .ok (.imul, 1) := by decide +kernel
theorem dL_ranks_197 : decode cL_ranks 197 = .ok (.if_icmp .ge 69, 3) := by decide +kernel
theorem dL_ranks_200 : decode cL_ranks 200 = .ok (.iload 6, 2) := by decide +kernel
theorem dL_ranks_202 : decode cL_ranks 202 = .ok (.aload_n 0, 1) := by decide +kernel
theorem dL_ranks_203 : decode cL_ranks 203 = .ok (.iload_n 3, 1) := by decide +kernel
theorem dL_ranks_204 : decode cL_ranks 204 = .ok (.iload 7, 2) := by decide +kernel
theorem dL_ranks_206 : decode cL_ranks 206 = .ok (.aload_n 0, 1) := by decide +kernel
theorem dL_ranks_207 : decode cL_ranks 207 = .ok (.iload_n 3, 1) := by decide +kernel
theorem dL_ranks_208 : decode cL_ranks 208 = .ok (.iconst 1, 1) := by decide +kernel
theorem dL_ranks_209 : decode cL_ranks 209 = .ok (.invokestatic 153, 3) := by decide +kernel
theorem dL_ranks_212 : decode cL_ranks 212 = .ok (.idiv, 1) := by decide +kernel
theorem dL_ranks_213 : decode cL_ranks 213 = .ok (.iload 7, 2) := by decide +kernel
theorem dL_ranks_215 : decode cL_ranks 215 = .ok (.aload_n 0, 1) := by decide +kernel
theorem dL_ranks_216 : decode cL_ranks 216 = .ok (.iload_n 3, 1) := by decide +kernel
theorem dL_ranks_217 : decode cL_ranks 217 = .ok (.iconst 1, 1) := by decide +kernel
theorem dL_ranks_218 : decode cL_ranks 218 = .ok (.invokestatic 153, 3) := by decide +kernel
theorem dL_ranks_221 : decode cL_ranks 221 = .ok (.irem, 1) := by decide +kernel
theorem dL_ranks_222 : decode cL_ranks 222 = .ok (.invokestatic 195, 3) := by decide +kernel
theorem dL_ranks_225 : decode cL_ranks 225 = .ok (.aload_n 0, 1) := by decide +kernel
theorem dL_ranks_226 : decode cL_ranks 226 = .ok (.iload 4, 2) := by decide +kernel
theorem dL_ranks_228 : decode cL_ranks 228 = .ok (.iload 7, 2) := by decide +kernel
theorem dL_ranks_230 : decode cL_ranks 230 = .ok (.aload_n 0, 1) := by decide +kernel
theorem dL_ranks_231 : decode cL_ranks 231 = .ok (.iload_n 3, 1) := by decide +kernel
theorem dL_ranks_232 : decode cL_ranks 232 = .ok (.iconst 1, 1) := by decide +kernel
theorem dL_ranks_233 : decode cL_ranks 233 = .ok (.invokestatic 153, 3) := by decide +kernel
theorem dL_ranks_236 : decode cL_ranks 236 = .ok (.idiv, 1) := by decide +kernel
theorem dL_ranks_237 : decode cL_ranks 237 = .ok (.iload 7, 2) := by decide +kernel
theorem dL_ranks_239 : decode cL_ranks 239 = .ok (.aload_n 0, 1) := by decide +kernel
theorem dL_ranks_240 : decode cL_ranks 240 = .ok (.iload_n 3, 1) := by decide +kernel
theorem dL_ranks_241 : decode cL_ranks 241 = .ok (.iconst 1, 1) := by decide +kernel
theorem dL_ranks_242 : decode cL_ranks 242 = .ok (.invokestatic 153, 3) := by decide +kernel
theorem dL_ranks_245 : decode cL_ranks 245 = .ok (.irem, 1) := by decide +kernel
theorem dL_ranks_246 : decode cL_ranks 246 = .ok (.invokestatic 195, 3) := by decide +kernel
theorem dL_ranks_249 : decode cL_ranks 249 = .ok (.if_icmp .eq 7, 3) := by decide +kernel
theorem dL_ranks_252 : decode cL_ranks 252 = .ok (.iconst 1, 1) := by decide +kernel
theorem dL_ranks_253 : decode cL_ranks 253 = .ok (.goto 4, 3) := by decide +kernel
theorem dL_ranks_256 : decode cL_ranks 256 = .ok (.iconst 0, 1) := by decide +kernel
theorem dL_ranks_257 : decode cL_ranks 257 = .ok (.iadd, 1) := by decide +kernel
theorem dL_ranks_258 : decode cL_ranks 258 = .ok (.istore 6, 2) := by decide +kernel
theorem dL_ranks_260 : decode cL_ranks 260 = .ok (.iinc 7 1, 3) := by decide +kernel
theorem dL_ranks_263 : decode cL_ranks 263 = .ok (.goto (-86), 3) := by decide +kernel
theorem dL_ranks_266 : decode cL_ranks 266 = .ok (.aload_n 0, 1) := by decide +kernel
theorem dL_ranks_267 : decode cL_ranks 267 = .ok (.iload_n 3, 1) := by decide +kernel
theorem dL_ranks_268 : decode cL_ranks 268 = .ok (.iload 4, 2) := by decide +kernel
theorem dL_ranks_270 : decode cL_ranks 270 = .ok (.invokestatic 280, 3) := by decide +kernel
theorem dL_ranks_273 : decode cL_ranks 273 = .ok (.iload 6, 2) := by decide +kernel
theorem dL_ranks_275 : decode cL_ranks 275 = .ok (.if_icmp .eq 5, 3) := by decide +kernel
theorem dL_ranks_278 : decode cL_ranks 278 = .ok (.iconst 0, 1) := by decide +kernel
theorem dL_ranks_279 : decode cL_ranks 279 = .ok (.ireturn, 1) := by decide +kernel
theorem dL_ranks_280 : decode cL_ranks 280 = .ok (.iinc 4 1, 3) := by decide +kernel
theorem dL_ranks_283 : decode cL_ranks 283 = .ok (.goto (-171), 3) := by decide +kernel
theorem dL_ranks_286 : decode cL_ranks 286 = .ok (.iinc 3 1, 3) := by decide +kernel
theorem dL_ranks_289 : decode cL_ranks 289 = .ok (.goto (-189), 3) := by decide +kernel
theorem dL_ranks_292 : decode cL_ranks 292 = .ok (.aload_n 0, 1) := by decide +kernel
theorem dL_ranks_293 : decode cL_ranks 293 = .ok (.aload_n 0, 1) := by decide +kernel
theorem dL_ranks_294 : decode cL_ranks 294 = .ok (.iconst 0, 1) := by decide +kernel
theorem dL_ranks_295 : decode cL_ranks 295 = .ok (.invokevirtual 150, 3) := by decide +kernel
theorem dL_ranks_298 : decode cL_ranks 298 = .ok (.invokestatic 278, 3) := by decide +kernel
theorem dL_ranks_301 : decode cL_ranks 301 = .ok (.bipush (-13), 2) := by decide +kernel
theorem dL_ranks_303 : decode cL_ranks 303 = .ok (.if_icmp .ne 7, 3) := by decide +kernel
theorem dL_ranks_306 : decode cL_ranks 306 = .ok (.iconst 1, 1) := by decide +kernel
theorem dL_ranks_307 : decode cL_ranks 307 = .ok (.goto 4, 3) := by decide +kernel
theorem dL_ranks_310 : decode cL_ranks 310 = .ok (.iconst 0, 1) := by decide +kernel
theorem dL_ranks_311 : decode cL_ranks 311 = .ok (.ireturn, 1) := by decide +kernel
theorem dL_sum_0 : decode cL_sum 0 = .ok (.ldc2_w 282, 3) := by decide +kernel
theorem dL_sum_3 : decode cL_sum 3 = .ok (.lstore_n 1, 1) := by decide +kernel
theorem dL_sum_4 : decode cL_sum 4 = .ok (.iconst 0, 1) := by decide +kernel
theorem dL_sum_5 : decode cL_sum 5 = .ok (.istore_n 3, 1) := by decide +kernel
theorem dL_sum_6 : decode cL_sum 6 = .ok (.iload_n 3, 1) := by decide +kernel
theorem dL_sum_7 : decode cL_sum 7 = .ok (.bipush 10, 2) := by decide +kernel
theorem dL_sum_9 : decode cL_sum 9 = .ok (.if_icmp .ge 22, 3) := by decide +kernel
theorem dL_sum_12 : decode cL_sum 12 = .ok (.ldc2_w 284, 3) := by decide +kernel
theorem dL_sum_15 : decode cL_sum 15 = .ok (.lload_n 1, 1) := by decide +kernel
theorem dL_sum_16 : decode cL_sum 16 = .ok (.lmul, 1) := by decide +kernel
theorem dL_sum_17 : decode cL_sum 17 = .ok (.aload_n 0, 1) := by decide +kernel
theorem dL_sum_18 : decode cL_sum 18 = .ok (.iload_n 3, 1) := by decide +kernel
theorem dL_sum_19 : decode cL_sum 19 = .ok (.invokevirtual 150, 3) := by decide +kernel
theorem dL_sum_22 : decode cL_sum 22 = .ok (.i2l, 1) := by decide +kernel
theorem dL_sum_23 : decode cL_sum 23 = .ok (.ladd, 1) := by decide +kernel
theorem dL_sum_24 : decode cL_sum 24 = .ok (.lstore_n 1, 1) := by decide +kernel
theorem dL_sum_25 : decode cL_sum 25 = .ok (.iinc 3 1, 3) := by decide +kernel
theorem dL_sum_28 : decode cL_sum 28 = .ok (.goto (-22), 3) := by decide +kernel
theorem dL_sum_31 : decode cL_sum 31 = .ok (.iconst 0, 1) := by decide +kernel
theorem dL_sum_32 : decode cL_sum 32 = .ok (.istore_n 3, 1) := by decide +kernel
theorem dL_sum_33 : decode cL_sum 33 = .ok (.iload_n 3, 1) := by decide +kernel
theorem dL_sum_34 : decode cL_sum 34 = .ok (.aload_n 0, 1) := by decide +kernel
theorem dL_sum_35 : decode cL_sum 35 = .ok (.iconst 0, 1) := by decide +kernel
theorem dL_sum_36 : decode cL_sum 36 = .ok (.invokevirtual 150, 3) := by decide +kernel
theorem dL_sum_39 : decode cL_sum 39 = .ok (.if_icmp .ge 147, 3) := by decide +kernel
theorem dL_sum_42 : decode cL_sum 42 = .ok (.iconst 0, 1) := by decide +kernel
theorem dL_sum_43 : decode cL_sum 43 = .ok (.istore 4, 2) := by decide +kernel
theorem dL_sum_45 : decode cL_sum 45 = .ok (.iload 4, 2) := by decide +kernel
theorem dL_sum_47 : decode cL_sum 47 = .ok (.bipush 7, 2) := by decide +kernel
theorem dL_sum_49 : decode cL_sum 49 = .ok (.if_icmp .ge 24, 3) := by decide +kernel
theorem dL_sum_52 : decode cL_sum 52 = .ok (.ldc2_w 286, 3) := by decide +kernel
theorem dL_sum_55 : decode cL_sum 55 = .ok (.lload_n 1, 1) := by decide +kernel
theorem dL_sum_56 : decode cL_sum 56 = .ok (.lmul, 1) := by decide +kernel
theorem dL_sum_57 : decode cL_sum 57 = .ok (.aload_n 0, 1) := by decide +kernel
theorem dL_sum_58 : decode cL_sum 58 = .ok (.iload_n 3, 1) := by decide +kernel
theorem dL_sum_59 : decode cL_sum 59 = .ok (.iload 4, 2) := by decide +kernel
theorem dL_sum_61 : decode cL_sum 61 = .ok (.invokestatic 153, 3) := by decide +kernel
theorem dL_sum_64 : decode cL_sum 64 = .ok (.i2l, 1) := by decide +kernel
theorem dL_sum_65 : decode cL_sum 65 = .ok (.ladd, 1) := by decide +kernel
theorem dL_sum_66 : decode cL_sum 66 = .ok (.lstore_n 1, 1) := by decide +kernel
theorem dL_sum_67 : decode cL_sum 67 = .ok (.iinc 4 1, 3) := by decide +kernel
theorem dL_sum_70 : decode cL_sum 70 = .ok (.goto (-25), 3) := by decide +kernel
theorem dL_sum_73 : decode cL_sum 73 = .ok (.iconst 0, 1) := by decide +kernel
theorem dL_sum_74 : decode cL_sum 74 = .ok (.istore 4, 2) := by decide +kernel
theorem dL_sum_76 : decode cL_sum 76 = .ok (.iload 4, 2) := by decide +kernel
theorem dL_sum_78 : decode cL_sum 78 = .ok (.aload_n 0, 1) := by decide +kernel
theorem dL_sum_79 : decode cL_sum 79 = .ok (.iload_n 3, 1) := by decide +kernel
theorem dL_sum_80 : decode cL_sum 80 = .ok (.iconst 0, 1) := by decide +kernel
theorem dL_sum_81 : decode cL_sum 81 = .ok (.invokestatic 153, 3) := by decide +kernel
theorem dL_sum_84 : decode cL_sum 84 = .ok (.if_icmp .ge 61, 3) := by decide +kernel
theorem dL_sum_87 : decode cL_sum 87 = .ok (.ldc2_w 288, 3) := by decide +kernel
theorem dL_sum_90 : decode cL_sum 90 = .ok (.lload_n 1, 1) := by decide +kernel
theorem dL_sum_91 : decode cL_sum 91 = .ok (.lmul, 1) := by decide +kernel
theorem dL_sum_92 : decode cL_sum 92 = .ok (.aload_n 0, 1) := by decide +kernel
theorem dL_sum_93 : decode cL_sum 93 = .ok (.iload_n 3, 1) := by decide +kernel
theorem dL_sum_94 : decode cL_sum 94 = .ok (.iload 4, 2) := by decide +kernel
theorem dL_sum_96 : decode cL_sum 96 = .ok (.invokestatic 198, 3) := by decide +kernel
theorem dL_sum_99 : decode cL_sum 99 = .ok (.i2l, 1) := by decide +kernel
theorem dL_sum_100 : decode cL_sum 100 = .ok (.ladd, 1) := by decide +kernel
theorem dL_sum_101 : decode cL_sum 101 = .ok (.lstore_n 1, 1) := by decide +kernel
theorem dL_sum_102 : decode cL_sum 102 = .ok (.iconst 0, 1) := by decide +kernel
theorem dL_sum_103 : decode cL_sum 103 = .ok (.istore 5, 2) := by decide +kernel
theorem dL_sum_105 : decode cL_sum 105 = .ok (.iload 5, 2) := by decide +kernel
theorem dL_sum_107 : decode cL_sum 107 = .ok (.aload_n 0, 1) := by decide +kernel
theorem dL_sum_108 : decode cL_sum 108 = .ok (.iload_n 3, 1) := by decide +kernel
theorem dL_sum_109 : decode cL_sum 109 = .ok (.iconst 1, 1) := by decide +kernel
theorem dL_sum_110 : decode cL_sum 110 = .ok (.invokestatic 153, 3) := by decide +kernel
theorem dL_sum_113 : decode cL_sum 113 = .ok (.if_icmp .ge 26, 3) := by decide +kernel
theorem dL_sum_116 : decode cL_sum 116 = .ok (.ldc2_w 290, 3) := by decide +kernel
theorem dL_sum_119 : decode cL_sum 119 = .ok (.lload_n 1, 1) := by decide +kernel
theorem dL_sum_120 : decode cL_sum 120 = .ok (.lmul, 1) := by decide +kernel
theorem dL_sum_121 : decode cL_sum 121 = .ok (.aload_n 0, 1) := by decide +kernel
theorem dL_sum_122 : decode cL_sum 122 = .ok (.iload_n 3, 1) := by decide +kernel
theorem dL_sum_123 : decode cL_sum 123 = .ok (.iload 4, 2) := by decide +kernel
theorem dL_sum_125 : decode cL_sum 125 = .ok (.iload 5, 2) := by decide +kernel
theorem dL_sum_127 : decode cL_sum 127 = .ok (.invokestatic 195, 3) := by decide +kernel
theorem dL_sum_130 : decode cL_sum 130 = .ok (.i2l, 1) := by decide +kernel
theorem dL_sum_131 : decode cL_sum 131 = .ok (.ladd, 1) := by decide +kernel
theorem dL_sum_132 : decode cL_sum 132 = .ok (.lstore_n 1, 1) := by decide +kernel
theorem dL_sum_133 : decode cL_sum 133 = .ok (.iinc 5 1, 3) := by decide +kernel
theorem dL_sum_136 : decode cL_sum 136 = .ok (.goto (-31), 3) := by decide +kernel
theorem dL_sum_139 : decode cL_sum 139 = .ok (.iinc 4 1, 3) := by decide +kernel
theorem dL_sum_142 : decode cL_sum 142 = .ok (.goto (-66), 3) := by decide +kernel
theorem dL_sum_145 : decode cL_sum 145 = .ok (.iconst 0, 1) := by decide +kernel
theorem dL_sum_146 : decode cL_sum 146 = .ok (.istore 4, 2) := by decide +kernel
theorem dL_sum_148 : decode cL_sum 148 = .ok (.iload 4, 2) := by decide +kernel
theorem dL_sum_150 : decode cL_sum 150 = .ok (.aload_n 0, 1) := by decide +kernel
theorem dL_sum_151 : decode cL_sum 151 = .ok (.iload_n 3, 1) := by decide +kernel
theorem dL_sum_152 : decode cL_sum 152 = .ok (.iconst 1, 1) := by decide +kernel
theorem dL_sum_153 : decode cL_sum 153 = .ok (.invokestatic 153, 3) := by decide +kernel
theorem dL_sum_156 : decode cL_sum 156 = .ok (.if_icmp .ge 24, 3) := by decide +kernel
theorem dL_sum_159 : decode cL_sum 159 = .ok (.ldc2_w 292, 3) := by decide +kernel
theorem dL_sum_162 : decode cL_sum 162 = .ok (.lload_n 1, 1) := by decide +kernel
theorem dL_sum_163 : decode cL_sum 163 = .ok (.lmul, 1) := by decide +kernel
theorem dL_sum_164 : decode cL_sum 164 = .ok (.aload_n 0, 1) := by decide +kernel
theorem dL_sum_165 : decode cL_sum 165 = .ok (.iload_n 3, 1) := by decide +kernel
theorem dL_sum_166 : decode cL_sum 166 = .ok (.iload 4, 2) := by decide +kernel
theorem dL_sum_168 : decode cL_sum 168 = .ok (.invokestatic 200, 3) := by decide +kernel
theorem dL_sum_171 : decode cL_sum 171 = .ok (.i2l, 1) := by decide +kernel
theorem dL_sum_172 : decode cL_sum 172 = .ok (.ladd, 1) := by decide +kernel
theorem dL_sum_173 : decode cL_sum 173 = .ok (.lstore_n 1, 1) := by decide +kernel
theorem dL_sum_174 : decode cL_sum 174 = .ok (.iinc 4 1, 3) := by decide +kernel
theorem dL_sum_177 : decode cL_sum 177 = .ok (.goto (-29), 3) := by decide +kernel
theorem dL_sum_180 : decode cL_sum 180 = .ok (.iinc 3 1, 3) := by decide +kernel
theorem dL_sum_183 : decode cL_sum 183 = .ok (.goto (-150), 3) := by decide +kernel
theorem dL_sum_186 : decode cL_sum 186 = .ok (.lload_n 1, 1) := by decide +kernel
theorem dL_sum_187 : decode cL_sum 187 = .ok (.lreturn, 1) := by decide +kernel
theorem dL_undone_0 : decode cL_undone 0 = .ok (.bipush 9, 2) := by decide +kernel
theorem dL_undone_2 : decode cL_undone 2 = .ok (.newarray .long, 2) := by decide +kernel
theorem dL_undone_4 : decode cL_undone 4 = .ok (.astore_n 2, 1) := by decide +kernel
theorem dL_undone_5 : decode cL_undone 5 = .ok (.iconst 0, 1) := by decide +kernel
theorem dL_undone_6 : decode cL_undone 6 = .ok (.istore_n 3, 1) := by decide +kernel
theorem dL_undone_7 : decode cL_undone 7 = .ok (.iconst 0, 1) := by decide +kernel
theorem dL_undone_8 : decode cL_undone 8 = .ok (.istore 4, 2) := by decide +kernel
theorem dL_undone_10 : decode cL_undone 10 = .ok (.iload 4, 2) := by decide +kernel
theorem dL_undone_12 : decode cL_undone 12 = .ok (.bipush 7, 2) := by decide +kernel
theorem dL_undone_14 : decode cL_undone 14 = .ok (.if_icmp .ge 379, 3) := by decide +kernel
theorem dL_undone_17 : decode cL_undone 17 = .ok (.aload_n 0, 1) := by decide +kernel
theorem dL_undone_18 : decode cL_undone 18 = .ok (.bipush 72, 2) := by decide +kernel
theorem dL_undone_20 : decode cL_undone 20 = .ok (.iload 4, 2) := by decide +kernel
theorem dL_undone_22 : decode cL_undone 22 = .ok (.iadd, 1) := by decide +kernel
theorem dL_undone_23 : decode cL_undone 23 = .ok (.invokestatic 137, 3) := by decide +kernel
theorem dL_undone_26 : decode cL_undone 26 = .ok (.iconst 1, 1) := by decide +kernel
theorem dL_undone_27 : decode cL_undone 27 = .ok (.iushr, 1) := by decide +kernel
theorem dL_undone_28 : decode cL_undone 28 = .ok (.istore 5, 2) := by decide +kernel
theorem dL_undone_30 : decode cL_undone 30 = .ok (.iload 5, 2) := by decide +kernel
theorem dL_undone_32 : decode cL_undone 32 = .ok (.iconst 4, 1) := by decide +kernel
theorem dL_undone_33 : decode cL_undone 33 = .ok (.iushr, 1) := by decide +kernel
theorem dL_undone_34 : decode cL_undone 34 = .ok (.bipush 6, 2) := by decide +kernel
theorem dL_undone_36 : decode cL_undone 36 = .ok (.irem, 1) := by decide +kernel
theorem dL_undone_37 : decode cL_undone 37 = .ok (.istore 6, 2) := by decide +kernel
theorem dL_undone_39 : decode cL_undone 39 = .ok (.iload 5, 2) := by decide +kernel
theorem dL_undone_41 : decode cL_undone 41 = .ok (.bipush 7, 2) := by decide +kernel
theorem dL_undone_43 : decode cL_undone 43 = .ok (.iushr, 1) := by decide +kernel
theorem dL_undone_44 : decode cL_undone 44 = .ok (.bipush 7, 2) := by decide +kernel
theorem dL_undone_46 : decode cL_undone 46 = .ok (.irem, 1) := by decide +kernel
theorem dL_undone_47 : decode cL_undone 47 = .ok (.istore 7, 2) := by decide +kernel
theorem dL_undone_49 : decode cL_undone 49 = .ok (.iload 5, 2) := by decide +kernel
theorem dL_undone_51 : decode cL_undone 51 = .ok (.bipush 10, 2) := by decide +kernel
theorem dL_undone_53 : decode cL_undone 53 = .ok (.iushr, 1) := by decide +kernel
theorem dL_undone_54 : decode cL_undone 54 = .ok (.bipush 9, 2) := by decide +kernel
theorem dL_undone_56 : decode cL_undone 56 = .ok (.irem, 1) := by decide +kernel
theorem dL_undone_57 : decode cL_undone 57 = .ok (.istore 8, 2) := by decide +kernel
theorem dL_undone_59 : decode cL_undone 59 = .ok (.aload_n 2, 1) := by decide +kernel
theorem dL_undone_60 : decode cL_undone 60 = .ok (.iload_n 3, 1) := by decide +kernel
theorem dL_undone_61 : decode cL_undone 61 = .ok (.aload_n 1, 1) := by decide +kernel
theorem dL_undone_62 : decode cL_undone 62 = .ok (.invokestatic 294, 3) := by decide +kernel
theorem dL_undone_65 : decode cL_undone 65 = .ok (.lastore, 1) := by decide +kernel
theorem dL_undone_66 : decode cL_undone 66 = .ok (.iload 5, 2) := by decide +kernel
theorem dL_undone_68 : decode cL_undone 68 = .ok (.bipush 13, 2) := by decide +kernel
theorem dL_undone_70 : decode cL_undone 70 = .ok (.irem, 1) := by decide +kernel
theorem dL_undone_71 : decode cL_undone 71 = .ok (.tableswitch 184 0 10 #[57, 70, 70, 102, 113, 124, 124, 147, 147, 162, 173], 57) := by decide +kernel
theorem dL_undone_128 : decode cL_undone 128 = .ok (.aload_n 1, 1) := by decide +kernel
theorem dL_undone_129 : decode cL_undone 129 = .ok (.iload 7, 2) := by decide +kernel
theorem dL_undone_131 : decode cL_undone 131 = .ok (.iload 8, 2) := by decide +kernel
theorem dL_undone_133 : decode cL_undone 133 = .ok (.invokestatic 141, 3) := by decide +kernel
theorem dL_undone_136 : decode cL_undone 136 = .ok (.istore 9, 2) := by decide +kernel
theorem dL_undone_138 : decode cL_undone 138 = .ok (.goto 218, 3) := by decide +kernel
theorem dL_undone_141 : decode cL_undone 141 = .ok (.aload_n 1, 1) := by decide +kernel
theorem dL_undone_142 : decode cL_undone 142 = .ok (.iload 6, 2) := by decide +kernel
theorem dL_undone_144 : decode cL_undone 144 = .ok (.iload 7, 2) := by decide +kernel
theorem dL_undone_146 : decode cL_undone 146 = .ok (.iload 8, 2) := by decide +kernel
theorem dL_undone_148 : decode cL_undone 148 = .ok (.iload 5, 2) := by decide +kernel
theorem dL_undone_150 : decode cL_undone 150 = .ok (.bipush 14, 2) := by decide +kernel
theorem dL_undone_152 : decode cL_undone 152 = .ok (.iushr, 1) := by decide +kernel
theorem dL_undone_153 : decode cL_undone 153 = .ok (.bipush 11, 2) := by decide +kernel
theorem dL_undone_155 : decode cL_undone 155 = .ok (.irem, 1) := by decide +kernel
theorem dL_undone_156 : decode cL_undone 156 = .ok (.invokestatic 144, 3) := by decide +kernel
theorem dL_undone_159 : decode cL_undone 159 = .ok (.iconst (-1), 1) := by decide +kernel
theorem dL_undone_160 : decode cL_undone 160 = .ok (.if_icmp .ge 7, 3) := by decide +kernel
theorem dL_undone_163 : decode cL_undone 163 = .ok (.iconst (-1), 1) := by decide +kernel
theorem dL_undone_164 : decode cL_undone 164 = .ok (.goto 4, 3) := by decide +kernel
theorem dL_undone_167 : decode cL_undone 167 = .ok (.iconst 0, 1) := by decide +kernel
theorem dL_undone_168 : decode cL_undone 168 = .ok (.istore 9, 2) := by decide +kernel
theorem dL_undone_170 : decode cL_undone 170 = .ok (.goto 186, 3) := by decide +kernel
theorem dL_undone_173 : decode cL_undone 173 = .ok (.aload_n 1, 1) := by decide +kernel
theorem dL_undone_174 : decode cL_undone 174 = .ok (.iload 6, 2) := by decide +kernel
theorem dL_undone_176 : decode cL_undone 176 = .ok (.invokestatic 147, 3) := by decide +kernel
theorem dL_undone_179 : decode cL_undone 179 = .ok (.istore 9, 2) := by decide +kernel
theorem dL_undone_181 : decode cL_undone 181 = .ok (.goto 175, 3) := by decide +kernel
theorem dL_undone_184 : decode cL_undone 184 = .ok (.aload_n 1, 1) := by decide +kernel
theorem dL_undone_185 : decode cL_undone 185 = .ok (.iload 6, 2) := by decide +kernel
theorem dL_undone_187 : decode cL_undone 187 = .ok (.invokestatic 156, 3) := by decide +kernel
theorem dL_undone_190 : decode cL_undone 190 = .ok (.istore 9, 2) := by decide +kernel
theorem dL_undone_192 : decode cL_undone 192 = .ok (.goto 164, 3) := by decide +kernel
theorem dL_undone_195 : decode cL_undone 195 = .ok (.aload_n 1, 1) := by decide +kernel
theorem dL_undone_196 : decode cL_undone 196 = .ok (.iload 6, 2) := by decide +kernel
theorem dL_undone_198 : decode cL_undone 198 = .ok (.iload 7, 2) := by decide +kernel
theorem dL_undone_200 : decode cL_undone 200 = .ok (.iload 8, 2) := by decide +kernel
theorem dL_undone_202 : decode cL_undone 202 = .ok (.iload 5, 2) := by decide +kernel
theorem dL_undone_204 : decode cL_undone 204 = .ok (.bipush 14, 2) := by decide +kernel
theorem dL_undone_206 : decode cL_undone 206 = .ok (.iushr, 1) := by decide +kernel
theorem dL_undone_207 : decode cL_undone 207 = .ok (.bipush 11, 2) := by decide +kernel
theorem dL_undone_209 : decode cL_undone 209 = .ok (.irem, 1) := by decide +kernel
theorem dL_undone_210 : decode cL_undone 210 = .ok (.invokestatic 158, 3) := by decide +kernel
theorem dL_undone_213 : decode cL_undone 213 = .ok (.istore 9, 2) := by decide +kernel
theorem dL_undone_215 : decode cL_undone 215 = .ok (.goto 141, 3) := by decide +kernel
theorem dL_undone_218 : decode cL_undone 218 = .ok (.aload_n 1, 1) := by decide +kernel
theorem dL_undone_219 : decode cL_undone 219 = .ok (.iload 6, 2) := by decide +kernel
theorem dL_undone_221 : decode cL_undone 221 = .ok (.iload 7, 2) := by decide +kernel
theorem dL_undone_223 : decode cL_undone 223 = .ok (.iload 8, 2) := by decide +kernel
theorem dL_undone_225 : decode cL_undone 225 = .ok (.invokestatic 160, 3) := by decide +kernel
theorem dL_undone_228 : decode cL_undone 228 = .ok (.istore 9, 2) := by decide +kernel
theorem dL_undone_230 : decode cL_undone 230 = .ok (.goto 126, 3) := by decide +kernel
theorem dL_undone_233 : decode cL_undone 233 = .ok (.aload_n 1, 1) := by decide +kernel
theorem dL_undone_234 : decode cL_undone 234 = .ok (.iload 6, 2) := by decide +kernel
theorem dL_undone_236 : decode cL_undone 236 = .ok (.invokestatic 163, 3) := by decide +kernel
theorem dL_undone_239 : decode cL_undone 239 = .ok (.istore 9, 2) := by decide +kernel
theorem dL_undone_241 : decode cL_undone 241 = .ok (.goto 115, 3) := by decide +kernel
theorem dL_undone_244 : decode cL_undone 244 = .ok (.aload_n 1, 1) := by decide +kernel
theorem dL_undone_245 : decode cL_undone 245 = .ok (.iload 6, 2) := by decide +kernel
theorem dL_undone_247 : decode cL_undone 247 = .ok (.invokestatic 165, 3) := by decide +kernel
theorem dL_undone_250 : decode cL_undone 250 = .ok (.istore 9, 2) := by decide +kernel
theorem dL_undone_252 : decode cL_undone 252 = .ok (.goto 104, 3) := by decide +kernel
theorem dL_undone_255 : decode cL_undone 255 = .ok (.aload_n 1, 1) := by decide +kernel
theorem dL_undone_256 : decode cL_undone 256 = .ok (.new 242, 3) := by decide +kernel
theorem dL_undone_259 : decode cL_undone 259 = .ok (.dup, 1) := by decide +kernel
theorem dL_undone_260 : decode cL_undone 260 = .ok (.invokespecial 244, 3) := by decide +kernel
theorem dL_undone_263 : decode cL_undone 263 = .ok (.ldc_w 298, 3) := by decide +kernel
theorem dL_undone_266 : decode cL_undone 266 = .ok (.invokevirtual 249, 3) := by decide +kernel
theorem dL_undone_269 : decode cL_undone 269 = .ok (.iload 5, 2) := by decide +kernel
theorem dL_undone_271 : decode cL_undone 271 = .ok (.iconst 4, 1) := by decide +kernel
theorem dL_undone_272 : decode cL_undone 272 = .ok (.iushr, 1) := by decide +kernel
theorem dL_undone_273 : decode cL_undone 273 = .ok (.bipush 10, 2) := by decide +kernel
theorem dL_undone_275 : decode cL_undone 275 = .ok (.irem, 1) := by decide +kernel
theorem dL_undone_276 : decode cL_undone 276 = .ok (.invokevirtual 252, 3) := by decide +kernel
theorem dL_undone_279 : decode cL_undone 279 = .ok (.iload 5, 2) := by decide +kernel
theorem dL_undone_281 : decode cL_undone 281 = .ok (.bipush 26, 2) := by decide +kernel
theorem dL_undone_283 : decode cL_undone 283 = .ok (.irem, 1) := by decide +kernel
theorem dL_undone_284 : decode cL_undone 284 = .ok (.bipush 13, 2) := by decide +kernel
theorem dL_undone_286 : decode cL_undone 286 = .ok (.if_icmp .ge 33, 3) := by decide +kernel
theorem dL_undone_289 : decode cL_undone 289 = .ok (.new 242, 3) := by decide +kernel
theorem dL_undone_292 : decode cL_undone 292 = .ok (.dup, 1) := by decide +kernel
theorem dL_undone_293 : decode cL_undone 293 = .ok (.invokespecial 244, 3) := by decide +kernel
theorem dL_undone_296 : decode cL_undone 296 = .ok (.ldc_w 300, 3) := by decide +kernel
theorem dL_undone_299 : decode cL_undone 299 = .ok (.invokevirtual 249, 3) := by decide +kernel
theorem dL_undone_302 : decode cL_undone 302 = .ok (.iload 5, 2) := by decide +kernel
theorem dL_undone_304 : decode cL_undone 304 = .ok (.bipush 8, 2) := by decide +kernel
theorem dL_undone_306 : decode cL_undone 306 = .ok (.iushr, 1) := by decide +kernel
theorem dL_undone_307 : decode cL_undone 307 = .ok (.bipush 10, 2) := by decide +kernel
theorem dL_undone_309 : decode cL_undone 309 = .ok (.irem, 1) := by decide +kernel
theorem dL_undone_310 : decode cL_undone 310 = .ok (.invokevirtual 252, 3) := by decide +kernel
theorem dL_undone_313 : decode cL_undone 313 = .ok (.invokevirtual 255, 3) := by decide +kernel
theorem dL_undone_316 : decode cL_undone 316 = .ok (.goto 29, 3) := by decide +kernel
theorem dL_undone_319 : decode cL_undone 319 = .ok (.new 242, 3) := by decide +kernel
theorem dL_undone_322 : decode cL_undone 322 = .ok (.dup, 1) := by decide +kernel
theorem dL_undone_323 : decode cL_undone 323 = .ok (.invokespecial 244, 3) := by decide +kernel
theorem dL_undone_326 : decode cL_undone 326 = .ok (.ldc_w 302, 3) := by decide +kernel
theorem dL_undone_329 : decode cL_undone 329 = .ok (.invokevirtual 249, 3) := by decide +kernel
theorem dL_undone_332 : decode cL_undone 332 = .ok (.iload 5, 2) := by decide +kernel
theorem dL_undone_334 : decode cL_undone 334 = .ok (.bipush 8, 2) := by decide +kernel
theorem dL_undone_336 : decode cL_undone 336 = .ok (.iushr, 1) := by decide +kernel
theorem dL_undone_337 : decode cL_undone 337 = .ok (.iconst 3, 1) := by decide +kernel
theorem dL_undone_338 : decode cL_undone 338 = .ok (.irem, 1) := by decide +kernel
theorem dL_undone_339 : decode cL_undone 339 = .ok (.invokevirtual 252, 3) := by decide +kernel
theorem dL_undone_342 : decode cL_undone 342 = .ok (.invokevirtual 255, 3) := by decide +kernel
theorem dL_undone_345 : decode cL_undone 345 = .ok (.invokevirtual 249, 3) := by decide +kernel
theorem dL_undone_348 : decode cL_undone 348 = .ok (.invokevirtual 255, 3) := by decide +kernel
theorem dL_undone_351 : decode cL_undone 351 = .ok (.invokestatic 304, 3) := by decide +kernel
theorem dL_undone_354 : decode cL_undone 354 = .ok (.istore 9, 2) := by decide +kernel
theorem dL_undone_356 : decode cL_undone 356 = .ok (.iload 9, 2) := by decide +kernel
theorem dL_undone_358 : decode cL_undone 358 = .ok (.ifCond .ge 16, 3) := by decide +kernel
theorem dL_undone_361 : decode cL_undone 361 = .ok (.aload_n 1, 1) := by decide +kernel
theorem dL_undone_362 : decode cL_undone 362 = .ok (.invokestatic 294, 3) := by decide +kernel
theorem dL_undone_365 : decode cL_undone 365 = .ok (.aload_n 2, 1) := by decide +kernel
theorem dL_undone_366 : decode cL_undone 366 = .ok (.iload_n 3, 1) := by decide +kernel
theorem dL_undone_367 : decode cL_undone 367 = .ok (.laload, 1) := by decide +kernel
theorem dL_undone_368 : decode cL_undone 368 = .ok (.lcmp, 1) := by decide +kernel
theorem dL_undone_369 : decode cL_undone 369 = .ok (.ifCond .eq 5, 3) := by decide +kernel
theorem dL_undone_372 : decode cL_undone 372 = .ok (.iconst 0, 1) := by decide +kernel
theorem dL_undone_373 : decode cL_undone 373 = .ok (.ireturn, 1) := by decide +kernel
theorem dL_undone_374 : decode cL_undone 374 = .ok (.iload_n 3, 1) := by decide +kernel
theorem dL_undone_375 : decode cL_undone 375 = .ok (.iload 9, 2) := by decide +kernel
theorem dL_undone_377 : decode cL_undone 377 = .ok (.ifCond .ge 7, 3) := by decide +kernel
theorem dL_undone_380 : decode cL_undone 380 = .ok (.iconst 0, 1) := by decide +kernel
theorem dL_undone_381 : decode cL_undone 381 = .ok (.goto 4, 3) := by decide +kernel
theorem dL_undone_384 : decode cL_undone 384 = .ok (.iconst 1, 1) := by decide +kernel
theorem dL_undone_385 : decode cL_undone 385 = .ok (.iadd, 1) := by decide +kernel
theorem dL_undone_386 : decode cL_undone 386 = .ok (.istore_n 3, 1) := by decide +kernel
theorem dL_undone_387 : decode cL_undone 387 = .ok (.iinc 4 1, 3) := by decide +kernel
theorem dL_undone_390 : decode cL_undone 390 = .ok (.goto (-380), 3) := by decide +kernel
theorem dL_undone_393 : decode cL_undone 393 = .ok (.iload_n 3, 1) := by decide +kernel
theorem dL_undone_394 : decode cL_undone 394 = .ok (.iconst 1, 1) := by decide +kernel
theorem dL_undone_395 : decode cL_undone 395 = .ok (.isub, 1) := by decide +kernel
theorem dL_undone_396 : decode cL_undone 396 = .ok (.istore 4, 2) := by decide +kernel
theorem dL_undone_398 : decode cL_undone 398 = .ok (.iload 4, 2) := by decide +kernel
theorem dL_undone_400 : decode cL_undone 400 = .ok (.ifCond .lt 30, 3) := by decide +kernel
theorem dL_undone_403 : decode cL_undone 403 = .ok (.aload_n 1, 1) := by decide +kernel
theorem dL_undone_404 : decode cL_undone 404 = .ok (.invokestatic 276, 3) := by decide +kernel
theorem dL_undone_407 : decode cL_undone 407 = .ok (.ifCond .lt 15, 3) := by decide +kernel
theorem dL_undone_410 : decode cL_undone 410 = .ok (.aload_n 1, 1) := by decide +kernel
theorem dL_undone_411 : decode cL_undone 411 = .ok (.invokestatic 294, 3) := by decide +kernel
theorem dL_undone_414 : decode cL_undone 414 = .ok (.aload_n 2, 1) := by decide +kernel
theorem dL_undone_415 : decode cL_undone 415 = .ok (.iload 4, 2) := by decide +kernel
theorem dL_undone_417 : decode cL_undone 417 = .ok (.laload, 1) := by decide +kernel
theorem dL_undone_418 : decode cL_undone 418 = .ok (.lcmp, 1) := by decide +kernel
theorem dL_undone_419 : decode cL_undone 419 = .ok (.ifCond .eq 5, 3) := by decide +kernel
theorem dL_undone_422 : decode cL_undone 422 = .ok (.iconst 0, 1) := by decide +kernel
theorem dL_undone_423 : decode cL_undone 423 = .ok (.ireturn, 1) := by decide +kernel
theorem dL_undone_424 : decode cL_undone 424 = .ok (.iinc 4 (-1), 3) := by decide +kernel
theorem dL_undone_427 : decode cL_undone 427 = .ok (.goto (-29), 3) := by decide +kernel
theorem dL_undone_430 : decode cL_undone 430 = .ok (.iconst 1, 1) := by decide +kernel
theorem dL_undone_431 : decode cL_undone 431 = .ok (.ireturn, 1) := by decide +kernel
