theorem dL_deals_0 : decode cL_deals 0 = .ok (.aload_n 0, 1) := by decide +kernel
theorem dL_deals_1 : decode cL_deals 1 = .ok (.iload_n 1, 1) := by decide +kernel
theorem dL_deals_2 : decode cL_deals 2 = .ok (.lload_n 2, 1) := by decide +kernel
theorem dL_deals_3 : decode cL_deals 3 = .ok (.invokevirtual 7, 3) := by decide +kernel
theorem dL_deals_6 : decode cL_deals 6 = .ok (.ireturn, 1) := by decide +kernel
theorem dL_deals_7 : decode cL_deals 7 = .ok (.astore 4, 2) := by decide +kernel
theorem dL_deals_9 : decode cL_deals 9 = .ok (.ldc 15, 2) := by decide +kernel
theorem dL_deals_11 : decode cL_deals 11 = .ok (.ireturn, 1) := by decide +kernel
theorem dL_plays_0 : decode cL_plays 0 = .ok (.aload_n 0, 1) := by decide +kernel
theorem dL_plays_1 : decode cL_plays 1 = .ok (.iload_n 1, 1) := by decide +kernel
theorem dL_plays_2 : decode cL_plays 2 = .ok (.iload_n 2, 1) := by decide +kernel
theorem dL_plays_3 : decode cL_plays 3 = .ok (.invokevirtual 16, 3) := by decide +kernel
theorem dL_plays_6 : decode cL_plays 6 = .ok (.ireturn, 1) := by decide +kernel
theorem dL_plays_7 : decode cL_plays 7 = .ok (.astore_n 3, 1) := by decide +kernel
theorem dL_plays_8 : decode cL_plays 8 = .ok (.ldc 22, 2) := by decide +kernel
theorem dL_plays_10 : decode cL_plays 10 = .ok (.ireturn, 1) := by decide +kernel
theorem dL_plays_11 : decode cL_plays 11 = .ok (.astore_n 3, 1) := by decide +kernel
theorem dL_plays_12 : decode cL_plays 12 = .ok (.ldc 25, 2) := by decide +kernel
theorem dL_plays_14 : decode cL_plays 14 = .ok (.ireturn, 1) := by decide +kernel
theorem dL_doScript_0 : decode cL_doScript 0 = .ok (.aload_n 0, 1) := by decide +kernel
theorem dL_doScript_1 : decode cL_doScript 1 = .ok (.iload_n 1, 1) := by decide +kernel
theorem dL_doScript_2 : decode cL_doScript 2 = .ok (.lload_n 2, 1) := by decide +kernel
theorem dL_doScript_3 : decode cL_doScript 3 = .ok (.invokevirtual 26, 3) := by decide +kernel
theorem dL_doScript_6 : decode cL_doScript 6 = .ok (.ireturn, 1) := by decide +kernel
theorem dL_doScript_7 : decode cL_doScript 7 = .ok (.astore 4, 2) := by decide +kernel
theorem dL_doScript_9 : decode cL_doScript 9 = .ok (.ldc 15, 2) := by decide +kernel
theorem dL_doScript_11 : decode cL_doScript 11 = .ok (.ireturn, 1) := by decide +kernel
theorem dL_doSimulate_0 : decode cL_doSimulate 0 = .ok (.aload_n 0, 1) := by decide +kernel
theorem dL_doSimulate_1 : decode cL_doSimulate 1 = .ok (.lload_n 1, 1) := by decide +kernel
theorem dL_doSimulate_2 : decode cL_doSimulate 2 = .ok (.iload_n 3, 1) := by decide +kernel
theorem dL_doSimulate_3 : decode cL_doSimulate 3 = .ok (.invokevirtual 29, 3) := by decide +kernel
theorem dL_doSimulate_6 : decode cL_doSimulate 6 = .ok (.ireturn, 1) := by decide +kernel
theorem dL_doSimulate_7 : decode cL_doSimulate 7 = .ok (.astore 4, 2) := by decide +kernel
theorem dL_doSimulate_9 : decode cL_doSimulate 9 = .ok (.ldc 15, 2) := by decide +kernel
theorem dL_doSimulate_11 : decode cL_doSimulate 11 = .ok (.ireturn, 1) := by decide +kernel
theorem dL_tryAppend_0 : decode cL_tryAppend 0 = .ok (.aload_n 0, 1) := by decide +kernel
theorem dL_tryAppend_1 : decode cL_tryAppend 1 = .ok (.iload_n 1, 1) := by decide +kernel
theorem dL_tryAppend_2 : decode cL_tryAppend 2 = .ok (.invokevirtual 33, 3) := by decide +kernel
theorem dL_tryAppend_5 : decode cL_tryAppend 5 = .ok (.ireturn, 1) := by decide +kernel
theorem dL_tryAppend_6 : decode cL_tryAppend 6 = .ok (.astore_n 2, 1) := by decide +kernel
theorem dL_tryAppend_7 : decode cL_tryAppend 7 = .ok (.ldc 15, 2) := by decide +kernel
theorem dL_tryAppend_9 : decode cL_tryAppend 9 = .ok (.ireturn, 1) := by decide +kernel
theorem dL_tryAppend_10 : decode cL_tryAppend 10 = .ok (.astore_n 2, 1) := by decide +kernel
theorem dL_tryAppend_11 : decode cL_tryAppend 11 = .ok (.ldc 25, 2) := by decide +kernel
theorem dL_tryAppend_13 : decode cL_tryAppend 13 = .ok (.ireturn, 1) := by decide +kernel
theorem dL_tryLoad_0 : decode cL_tryLoad 0 = .ok (.aload_n 0, 1) := by decide +kernel
theorem dL_tryLoad_1 : decode cL_tryLoad 1 = .ok (.invokevirtual 37, 3) := by decide +kernel
theorem dL_tryLoad_4 : decode cL_tryLoad 4 = .ok (.ireturn, 1) := by decide +kernel
theorem dL_tryLoad_5 : decode cL_tryLoad 5 = .ok (.astore_n 1, 1) := by decide +kernel
theorem dL_tryLoad_6 : decode cL_tryLoad 6 = .ok (.ldc 25, 2) := by decide +kernel
theorem dL_tryLoad_8 : decode cL_tryLoad 8 = .ok (.ireturn, 1) := by decide +kernel
theorem dL_tryAbout_0 : decode cL_tryAbout 0 = .ok (.aload_n 0, 1) := by decide +kernel
theorem dL_tryAbout_1 : decode cL_tryAbout 1 = .ok (.iload_n 1, 1) := by decide +kernel
theorem dL_tryAbout_2 : decode cL_tryAbout 2 = .ok (.invokevirtual 41, 3) := by decide +kernel
theorem dL_tryAbout_5 : decode cL_tryAbout 5 = .ok (.ireturn, 1) := by decide +kernel
theorem dL_tryAbout_6 : decode cL_tryAbout 6 = .ok (.astore_n 2, 1) := by decide +kernel
theorem dL_tryAbout_7 : decode cL_tryAbout 7 = .ok (.ldc 15, 2) := by decide +kernel
theorem dL_tryAbout_9 : decode cL_tryAbout 9 = .ok (.ireturn, 1) := by decide +kernel
theorem dL_tryTile_0 : decode cL_tryTile 0 = .ok (.aload_n 0, 1) := by decide +kernel
theorem dL_tryTile_1 : decode cL_tryTile 1 = .ok (.iload_n 1, 1) := by decide +kernel
theorem dL_tryTile_2 : decode cL_tryTile 2 = .ok (.iload_n 2, 1) := by decide +kernel
theorem dL_tryTile_3 : decode cL_tryTile 3 = .ok (.invokevirtual 44, 3) := by decide +kernel
theorem dL_tryTile_6 : decode cL_tryTile 6 = .ok (.ireturn, 1) := by decide +kernel
theorem dL_tryTile_7 : decode cL_tryTile 7 = .ok (.astore_n 3, 1) := by decide +kernel
theorem dL_tryTile_8 : decode cL_tryTile 8 = .ok (.ldc 22, 2) := by decide +kernel
theorem dL_tryTile_10 : decode cL_tryTile 10 = .ok (.ireturn, 1) := by decide +kernel
theorem dL_tryTile_11 : decode cL_tryTile 11 = .ok (.astore_n 3, 1) := by decide +kernel
theorem dL_tryTile_12 : decode cL_tryTile 12 = .ok (.ldc 15, 2) := by decide +kernel
theorem dL_tryTile_14 : decode cL_tryTile 14 = .ok (.ireturn, 1) := by decide +kernel
theorem dL_tryLaid_0 : decode cL_tryLaid 0 = .ok (.aload_n 0, 1) := by decide +kernel
theorem dL_tryLaid_1 : decode cL_tryLaid 1 = .ok (.iload_n 1, 1) := by decide +kernel
theorem dL_tryLaid_2 : decode cL_tryLaid 2 = .ok (.iload_n 2, 1) := by decide +kernel
theorem dL_tryLaid_3 : decode cL_tryLaid 3 = .ok (.invokevirtual 48, 3) := by decide +kernel
theorem dL_tryLaid_6 : decode cL_tryLaid 6 = .ok (.ireturn, 1) := by decide +kernel
theorem dL_tryLaid_7 : decode cL_tryLaid 7 = .ok (.astore_n 3, 1) := by decide +kernel
theorem dL_tryLaid_8 : decode cL_tryLaid 8 = .ok (.ldc 22, 2) := by decide +kernel
theorem dL_tryLaid_10 : decode cL_tryLaid 10 = .ok (.ireturn, 1) := by decide +kernel
theorem dL_tryLaid_11 : decode cL_tryLaid 11 = .ok (.astore_n 3, 1) := by decide +kernel
theorem dL_tryLaid_12 : decode cL_tryLaid 12 = .ok (.ldc 15, 2) := by decide +kernel
theorem dL_tryLaid_14 : decode cL_tryLaid 14 = .ok (.ireturn, 1) := by decide +kernel
theorem dL_tryPlayer_0 : decode cL_tryPlayer 0 = .ok (.aload_n 0, 1) := by decide +kernel
theorem dL_tryPlayer_1 : decode cL_tryPlayer 1 = .ok (.iload_n 1, 1) := by decide +kernel
theorem dL_tryPlayer_2 : decode cL_tryPlayer 2 = .ok (.iload_n 2, 1) := by decide +kernel
theorem dL_tryPlayer_3 : decode cL_tryPlayer 3 = .ok (.invokevirtual 51, 3) := by decide +kernel
theorem dL_tryPlayer_6 : decode cL_tryPlayer 6 = .ok (.ireturn, 1) := by decide +kernel
theorem dL_tryPlayer_7 : decode cL_tryPlayer 7 = .ok (.astore_n 3, 1) := by decide +kernel
theorem dL_tryPlayer_8 : decode cL_tryPlayer 8 = .ok (.ldc 22, 2) := by decide +kernel
theorem dL_tryPlayer_10 : decode cL_tryPlayer 10 = .ok (.ireturn, 1) := by decide +kernel
theorem dL_tryPlayer_11 : decode cL_tryPlayer 11 = .ok (.astore_n 3, 1) := by decide +kernel
theorem dL_tryPlayer_12 : decode cL_tryPlayer 12 = .ok (.ldc 15, 2) := by decide +kernel
theorem dL_tryPlayer_14 : decode cL_tryPlayer 14 = .ok (.ireturn, 1) := by decide +kernel
theorem dL_tryAt_0 : decode cL_tryAt 0 = .ok (.aload_n 0, 1) := by decide +kernel
theorem dL_tryAt_1 : decode cL_tryAt 1 = .ok (.iload_n 1, 1) := by decide +kernel
theorem dL_tryAt_2 : decode cL_tryAt 2 = .ok (.iload_n 2, 1) := by decide +kernel
theorem dL_tryAt_3 : decode cL_tryAt 3 = .ok (.invokevirtual 54, 3) := by decide +kernel
theorem dL_tryAt_6 : decode cL_tryAt 6 = .ok (.ireturn, 1) := by decide +kernel
theorem dL_tryAt_7 : decode cL_tryAt 7 = .ok (.astore_n 3, 1) := by decide +kernel
theorem dL_tryAt_8 : decode cL_tryAt 8 = .ok (.ldc 22, 2) := by decide +kernel
theorem dL_tryAt_10 : decode cL_tryAt 10 = .ok (.ireturn, 1) := by decide +kernel
theorem dL_tryFree_0 : decode cL_tryFree 0 = .ok (.aload_n 0, 1) := by decide +kernel
theorem dL_tryFree_1 : decode cL_tryFree 1 = .ok (.iload_n 1, 1) := by decide +kernel
theorem dL_tryFree_2 : decode cL_tryFree 2 = .ok (.invokevirtual 57, 3) := by decide +kernel
theorem dL_tryFree_5 : decode cL_tryFree 5 = .ok (.ireturn, 1) := by decide +kernel
theorem dL_tryFree_6 : decode cL_tryFree 6 = .ok (.astore_n 2, 1) := by decide +kernel
theorem dL_tryFree_7 : decode cL_tryFree 7 = .ok (.ldc 15, 2) := by decide +kernel
theorem dL_tryFree_9 : decode cL_tryFree 9 = .ok (.ireturn, 1) := by decide +kernel
theorem dL_tryDraw_0 : decode cL_tryDraw 0 = .ok (.aload_n 0, 1) := by decide +kernel
theorem dL_tryDraw_1 : decode cL_tryDraw 1 = .ok (.invokevirtual 60, 3) := by decide +kernel
theorem dL_tryDraw_4 : decode cL_tryDraw 4 = .ok (.ireturn, 1) := by decide +kernel
theorem dL_tryDraw_5 : decode cL_tryDraw 5 = .ok (.astore_n 1, 1) := by decide +kernel
theorem dL_tryDraw_6 : decode cL_tryDraw 6 = .ok (.ldc 25, 2) := by decide +kernel
theorem dL_tryDraw_8 : decode cL_tryDraw 8 = .ok (.ireturn, 1) := by decide +kernel
theorem dL_tryPass_0 : decode cL_tryPass 0 = .ok (.aload_n 0, 1) := by decide +kernel
theorem dL_tryPass_1 : decode cL_tryPass 1 = .ok (.invokevirtual 63, 3) := by decide +kernel
theorem dL_tryPass_4 : decode cL_tryPass 4 = .ok (.ireturn, 1) := by decide +kernel
theorem dL_tryPass_5 : decode cL_tryPass 5 = .ok (.astore_n 1, 1) := by decide +kernel
theorem dL_tryPass_6 : decode cL_tryPass 6 = .ok (.ldc 25, 2) := by decide +kernel
theorem dL_tryPass_8 : decode cL_tryPass 8 = .ok (.ireturn, 1) := by decide +kernel
theorem dL_tryUndo_0 : decode cL_tryUndo 0 = .ok (.aload_n 0, 1) := by decide +kernel
theorem dL_tryUndo_1 : decode cL_tryUndo 1 = .ok (.invokevirtual 66, 3) := by decide +kernel
theorem dL_tryUndo_4 : decode cL_tryUndo 4 = .ok (.ireturn, 1) := by decide +kernel
theorem dL_tryUndo_5 : decode cL_tryUndo 5 = .ok (.astore_n 1, 1) := by decide +kernel
theorem dL_tryUndo_6 : decode cL_tryUndo 6 = .ok (.ldc 25, 2) := by decide +kernel
theorem dL_tryUndo_8 : decode cL_tryUndo 8 = .ok (.ireturn, 1) := by decide +kernel
theorem dL_tryWhy_0 : decode cL_tryWhy 0 = .ok (.aload_n 0, 1) := by decide +kernel
theorem dL_tryWhy_1 : decode cL_tryWhy 1 = .ok (.iload_n 1, 1) := by decide +kernel
theorem dL_tryWhy_2 : decode cL_tryWhy 2 = .ok (.invokevirtual 69, 3) := by decide +kernel
theorem dL_tryWhy_5 : decode cL_tryWhy 5 = .ok (.ireturn, 1) := by decide +kernel
theorem dL_tryWhy_6 : decode cL_tryWhy 6 = .ok (.astore_n 2, 1) := by decide +kernel
theorem dL_tryWhy_7 : decode cL_tryWhy 7 = .ok (.ldc 22, 2) := by decide +kernel
theorem dL_tryWhy_9 : decode cL_tryWhy 9 = .ok (.ireturn, 1) := by decide +kernel
theorem dL_tryChain_0 : decode cL_tryChain 0 = .ok (.aload_n 0, 1) := by decide +kernel
theorem dL_tryChain_1 : decode cL_tryChain 1 = .ok (.iload_n 1, 1) := by decide +kernel
theorem dL_tryChain_2 : decode cL_tryChain 2 = .ok (.iload_n 2, 1) := by decide +kernel
theorem dL_tryChain_3 : decode cL_tryChain 3 = .ok (.invokevirtual 72, 3) := by decide +kernel
theorem dL_tryChain_6 : decode cL_tryChain 6 = .ok (.ireturn, 1) := by decide +kernel
theorem dL_tryChain_7 : decode cL_tryChain 7 = .ok (.astore_n 3, 1) := by decide +kernel
theorem dL_tryChain_8 : decode cL_tryChain 8 = .ok (.ldc 22, 2) := by decide +kernel
theorem dL_tryChain_10 : decode cL_tryChain 10 = .ok (.ireturn, 1) := by decide +kernel
theorem dL_tryChain_11 : decode cL_tryChain 11 = .ok (.astore_n 3, 1) := by decide +kernel
theorem dL_tryChain_12 : decode cL_tryChain 12 = .ok (.ldc 15, 2) := by decide +kernel
theorem dL_tryChain_14 : decode cL_tryChain 14 = .ok (.ireturn, 1) := by decide +kernel
theorem dL_tryReach_0 : decode cL_tryReach 0 = .ok (.aload_n 0, 1) := by decide +kernel
theorem dL_tryReach_1 : decode cL_tryReach 1 = .ok (.iload_n 1, 1) := by decide +kernel
theorem dL_tryReach_2 : decode cL_tryReach 2 = .ok (.invokevirtual 75, 3) := by decide +kernel
theorem dL_tryReach_5 : decode cL_tryReach 5 = .ok (.ireturn, 1) := by decide +kernel
theorem dL_tryReach_6 : decode cL_tryReach 6 = .ok (.astore_n 2, 1) := by decide +kernel
theorem dL_tryReach_7 : decode cL_tryReach 7 = .ok (.ldc 15, 2) := by decide +kernel
theorem dL_tryReach_9 : decode cL_tryReach 9 = .ok (.ireturn, 1) := by decide +kernel
theorem dL_tryKeep_0 : decode cL_tryKeep 0 = .ok (.aload_n 0, 1) := by decide +kernel
theorem dL_tryKeep_1 : decode cL_tryKeep 1 = .ok (.iload_n 1, 1) := by decide +kernel
theorem dL_tryKeep_2 : decode cL_tryKeep 2 = .ok (.invokevirtual 78, 3) := by decide +kernel
theorem dL_tryKeep_5 : decode cL_tryKeep 5 = .ok (.ireturn, 1) := by decide +kernel
theorem dL_tryKeep_6 : decode cL_tryKeep 6 = .ok (.astore_n 2, 1) := by decide +kernel
theorem dL_tryKeep_7 : decode cL_tryKeep 7 = .ok (.ldc 22, 2) := by decide +kernel
theorem dL_tryKeep_9 : decode cL_tryKeep 9 = .ok (.ireturn, 1) := by decide +kernel
theorem dL_tryBack_0 : decode cL_tryBack 0 = .ok (.aload_n 0, 1) := by decide +kernel
theorem dL_tryBack_1 : decode cL_tryBack 1 = .ok (.iload_n 1, 1) := by decide +kernel
theorem dL_tryBack_2 : decode cL_tryBack 2 = .ok (.invokevirtual 81, 3) := by decide +kernel
theorem dL_tryBack_5 : decode cL_tryBack 5 = .ok (.ireturn, 1) := by decide +kernel
theorem dL_tryBack_6 : decode cL_tryBack 6 = .ok (.astore_n 2, 1) := by decide +kernel
theorem dL_tryBack_7 : decode cL_tryBack 7 = .ok (.ldc 22, 2) := by decide +kernel
theorem dL_tryBack_9 : decode cL_tryBack 9 = .ok (.ireturn, 1) := by decide +kernel
theorem dL_tryBack_10 : decode cL_tryBack 10 = .ok (.astore_n 2, 1) := by decide +kernel
theorem dL_tryBack_11 : decode cL_tryBack 11 = .ok (.ldc 25, 2) := by decide +kernel
theorem dL_tryBack_13 : decode cL_tryBack 13 = .ok (.ireturn, 1) := by decide +kernel
theorem dL_call_0 : decode cL_call 0 = .ok (.iload_n 1, 1) := by decide +kernel
theorem dL_call_1 : decode cL_call 1 = .ok (.tableswitch 166 0 14 #[75, 81, 86, 92, 99, 106, 113, 120, 126, 131, 136, 141, 147, 154, 160], 75) := by decide +kernel
theorem dL_call_76 : decode cL_call 76 = .ok (.aload_n 0, 1) := by decide +kernel
theorem dL_call_77 : decode cL_call 77 = .ok (.iload_n 2, 1) := by decide +kernel
theorem dL_call_78 : decode cL_call 78 = .ok (.invokestatic 84, 3) := by decide +kernel
theorem dL_call_81 : decode cL_call 81 = .ok (.ireturn, 1) := by decide +kernel
theorem dL_call_82 : decode cL_call 82 = .ok (.aload_n 0, 1) := by decide +kernel
theorem dL_call_83 : decode cL_call 83 = .ok (.invokestatic 90, 3) := by decide +kernel
theorem dL_call_86 : decode cL_call 86 = .ok (.ireturn, 1) := by decide +kernel
theorem dL_call_87 : decode cL_call 87 = .ok (.aload_n 0, 1) := by decide +kernel
theorem dL_call_88 : decode cL_call 88 = .ok (.iload_n 2, 1) := by decide +kernel
theorem dL_call_89 : decode cL_call 89 = .ok (.invokestatic 94, 3) := by decide +kernel
theorem dL_call_92 : decode cL_call 92 = .ok (.ireturn, 1) := by decide +kernel
theorem dL_call_93 : decode cL_call 93 = .ok (.aload_n 0, 1) := by decide +kernel
theorem dL_call_94 : decode cL_call 94 = .ok (.iload_n 2, 1) := by decide +kernel
theorem dL_call_95 : decode cL_call 95 = .ok (.iload_n 3, 1) := by decide +kernel
theorem dL_call_96 : decode cL_call 96 = .ok (.invokestatic 97, 3) := by decide +kernel
theorem dL_call_99 : decode cL_call 99 = .ok (.ireturn, 1) := by decide +kernel
theorem dL_call_100 : decode cL_call 100 = .ok (.aload_n 0, 1) := by decide +kernel
theorem dL_call_101 : decode cL_call 101 = .ok (.iload_n 2, 1) := by decide +kernel
theorem dL_call_102 : decode cL_call 102 = .ok (.iload_n 3, 1) := by decide +kernel
theorem dL_call_103 : decode cL_call 103 = .ok (.invokestatic 101, 3) := by decide +kernel
theorem dL_call_106 : decode cL_call 106 = .ok (.ireturn, 1) := by decide +kernel
theorem dL_call_107 : decode cL_call 107 = .ok (.aload_n 0, 1) := by decide +kernel
theorem dL_call_108 : decode cL_call 108 = .ok (.iload_n 2, 1) := by decide +kernel
theorem dL_call_109 : decode cL_call 109 = .ok (.iload_n 3, 1) := by decide +kernel
theorem dL_call_110 : decode cL_call 110 = .ok (.invokestatic 104, 3) := by decide +kernel
theorem dL_call_113 : decode cL_call 113 = .ok (.ireturn, 1) := by decide +kernel
theorem dL_call_114 : decode cL_call 114 = .ok (.aload_n 0, 1) := by decide +kernel
theorem dL_call_115 : decode cL_call 115 = .ok (.iload_n 2, 1) := by decide +kernel
theorem dL_call_116 : decode cL_call 116 = .ok (.iload_n 3, 1) := by decide +kernel
theorem dL_call_117 : decode cL_call 117 = .ok (.invokestatic 107, 3) := by decide +kernel
theorem dL_call_120 : decode cL_call 120 = .ok (.ireturn, 1) := by decide +kernel
theorem dL_call_121 : decode cL_call 121 = .ok (.aload_n 0, 1) := by decide +kernel
theorem dL_call_122 : decode cL_call 122 = .ok (.iload_n 2, 1) := by decide +kernel
theorem dL_call_123 : decode cL_call 123 = .ok (.invokestatic 110, 3) := by decide +kernel
theorem dL_call_126 : decode cL_call 126 = .ok (.ireturn, 1) := by decide +kernel
theorem dL_call_127 : decode cL_call 127 = .ok (.aload_n 0, 1) := by decide +kernel
theorem dL_call_128 : decode cL_call 128 = .ok (.invokestatic 113, 3) := by decide +kernel
theorem dL_call_131 : decode cL_call 131 = .ok (.ireturn, 1) := by decide +kernel
theorem dL_call_132 : decode cL_call 132 = .ok (.aload_n 0, 1) := by decide +kernel
theorem dL_call_133 : decode cL_call 133 = .ok (.invokestatic 116, 3) := by decide +kernel
theorem dL_call_136 : decode cL_call 136 = .ok (.ireturn, 1) := by decide +kernel
theorem dL_call_137 : decode cL_call 137 = .ok (.aload_n 0, 1) := by decide +kernel
theorem dL_call_138 : decode cL_call 138 = .ok (.invokestatic 119, 3) := by decide +kernel
theorem dL_call_141 : decode cL_call 141 = .ok (.ireturn, 1) := by decide +kernel
theorem dL_call_142 : decode cL_call 142 = .ok (.aload_n 0, 1) := by decide +kernel
theorem dL_call_143 : decode cL_call 143 = .ok (.iload_n 2, 1) := by decide +kernel
theorem dL_call_144 : decode cL_call 144 = .ok (.invokestatic 122, 3) := by decide +kernel
theorem dL_call_147 : decode cL_call 147 = .ok (.ireturn, 1) := by decide +kernel
theorem dL_call_148 : decode cL_call 148 = .ok (.aload_n 0, 1) := by decide +kernel
theorem dL_call_149 : decode cL_call 149 = .ok (.iload_n 2, 1) := by decide +kernel
theorem dL_call_150 : decode cL_call 150 = .ok (.iload_n 3, 1) := by decide +kernel
theorem dL_call_151 : decode cL_call 151 = .ok (.invokestatic 125, 3) := by decide +kernel
theorem dL_call_154 : decode cL_call 154 = .ok (.ireturn, 1) := by decide +kernel
theorem dL_call_155 : decode cL_call 155 = .ok (.aload_n 0, 1) := by decide +kernel
theorem dL_call_156 : decode cL_call 156 = .ok (.iload_n 2, 1) := by decide +kernel
theorem dL_call_157 : decode cL_call 157 = .ok (.invokestatic 128, 3) := by decide +kernel
theorem dL_call_160 : decode cL_call 160 = .ok (.ireturn, 1) := by decide +kernel
theorem dL_call_161 : decode cL_call 161 = .ok (.aload_n 0, 1) := by decide +kernel
theorem dL_call_162 : decode cL_call 162 = .ok (.iload_n 2, 1) := by decide +kernel
theorem dL_call_163 : decode cL_call 163 = .ok (.invokestatic 131, 3) := by decide +kernel
theorem dL_call_166 : decode cL_call 166 = .ok (.ireturn, 1) := by decide +kernel
theorem dL_call_167 : decode cL_call 167 = .ok (.aload_n 0, 1) := by decide +kernel
theorem dL_call_168 : decode cL_call 168 = .ok (.iload_n 2, 1) := by decide +kernel
theorem dL_call_169 : decode cL_call 169 = .ok (.invokestatic 134, 3) := by decide +kernel
theorem dL_call_172 : decode cL_call 172 = .ok (.ireturn, 1) := by decide +kernel
theorem dL_cell_0 : decode cL_cell 0 = .ok (.iload_n 1, 1) := by decide +kernel
theorem dL_cell_1 : decode cL_cell 1 = .ok (.aload_n 0, 1) := by decide +kernel
theorem dL_cell_2 : decode cL_cell 2 = .ok (.arraylength, 1) := by decide +kernel
theorem dL_cell_3 : decode cL_cell 3 = .ok (.if_icmp .ge 9, 3) := by decide +kernel
theorem dL_cell_6 : decode cL_cell 6 = .ok (.aload_n 0, 1) := by decide +kernel
theorem dL_cell_7 : decode cL_cell 7 = .ok (.iload_n 1, 1) := by decide +kernel
theorem dL_cell_8 : decode cL_cell 8 = .ok (.iaload, 1) := by decide +kernel
theorem dL_cell_9 : decode cL_cell 9 = .ok (.goto 13, 3) := by decide +kernel
theorem dL_cell_12 : decode cL_cell 12 = .ok (.ldc 137, 2) := by decide +kernel
theorem dL_cell_14 : decode cL_cell 14 = .ok (.iload_n 1, 1) := by decide +kernel
theorem dL_cell_15 : decode cL_cell 15 = .ok (.iconst 3, 1) := by decide +kernel
theorem dL_cell_16 : decode cL_cell 16 = .ok (.iadd, 1) := by decide +kernel
theorem dL_cell_17 : decode cL_cell 17 = .ok (.imul, 1) := by decide +kernel
theorem dL_cell_18 : decode cL_cell 18 = .ok (.sipush 12011, 3) := by decide +kernel
theorem dL_cell_21 : decode cL_cell 21 = .ok (.iadd, 1) := by decide +kernel
theorem dL_cell_22 : decode cL_cell 22 = .ok (.ldc 138, 2) := by decide +kernel
theorem dL_cell_24 : decode cL_cell 24 = .ok (.iand, 1) := by decide +kernel
theorem dL_cell_25 : decode cL_cell 25 = .ok (.ireturn, 1) := by decide +kernel
theorem dL_thrown_0 : decode cL_thrown 0 = .ok (.iload_n 0, 1) := by decide +kernel
theorem dL_thrown_1 : decode cL_thrown 1 = .ok (.ldc 22, 2) := by decide +kernel
theorem dL_thrown_3 : decode cL_thrown 3 = .ok (.if_icmp .eq 15, 3) := by decide +kernel
theorem dL_thrown_6 : decode cL_thrown 6 = .ok (.iload_n 0, 1) := by decide +kernel
theorem dL_thrown_7 : decode cL_thrown 7 = .ok (.ldc 15, 2) := by decide +kernel
theorem dL_thrown_9 : decode cL_thrown 9 = .ok (.if_icmp .eq 9, 3) := by decide +kernel
theorem dL_thrown_12 : decode cL_thrown 12 = .ok (.iload_n 0, 1) := by decide +kernel
theorem dL_thrown_13 : decode cL_thrown 13 = .ok (.ldc 25, 2) := by decide +kernel
theorem dL_thrown_15 : decode cL_thrown 15 = .ok (.if_icmp .ne 7, 3) := by decide +kernel
theorem dL_thrown_18 : decode cL_thrown 18 = .ok (.iconst 1, 1) := by decide +kernel
theorem dL_thrown_19 : decode cL_thrown 19 = .ok (.goto 4, 3) := by decide +kernel
theorem dL_thrown_22 : decode cL_thrown 22 = .ok (.iconst 0, 1) := by decide +kernel
theorem dL_thrown_23 : decode cL_thrown 23 = .ok (.ireturn, 1) := by decide +kernel
theorem dL_refuses_0 : decode cL_refuses 0 = .ok (.iload_n 1, 1) := by decide +kernel
theorem dL_refuses_1 : decode cL_refuses 1 = .ok (.iconst 2, 1) := by decide +kernel
theorem dL_refuses_2 : decode cL_refuses 2 = .ok (.irem, 1) := by decide +kernel
theorem dL_refuses_3 : decode cL_refuses 3 = .ok (.ifCond .ne 12, 3) := by decide +kernel
theorem dL_refuses_6 : decode cL_refuses 6 = .ok (.iconst (-1), 1) := by decide +kernel
theorem dL_refuses_7 : decode cL_refuses 7 = .ok (.iload_n 1, 1) := by decide +kernel
theorem dL_refuses_8 : decode cL_refuses 8 = .ok (.bipush 99, 2) := by decide +kernel
theorem dL_refuses_10 : decode cL_refuses 10 = .ok (.irem, 1) := by decide +kernel
theorem dL_refuses_11 : decode cL_refuses 11 = .ok (.isub, 1) := by decide +kernel
theorem dL_refuses_12 : decode cL_refuses 12 = .ok (.goto 10, 3) := by decide +kernel
theorem dL_refuses_15 : decode cL_refuses 15 = .ok (.bipush 28, 2) := by decide +kernel
theorem dL_refuses_17 : decode cL_refuses 17 = .ok (.iload_n 1, 1) := by decide +kernel
theorem dL_refuses_18 : decode cL_refuses 18 = .ok (.bipush 99, 2) := by decide +kernel
theorem dL_refuses_20 : decode cL_refuses 20 = .ok (.irem, 1) := by decide +kernel
theorem dL_refuses_21 : decode cL_refuses 21 = .ok (.iadd, 1) := by decide +kernel
theorem dL_refuses_22 : decode cL_refuses 22 = .ok (.istore_n 2, 1) := by decide +kernel
theorem dL_refuses_23 : decode cL_refuses 23 = .ok (.iload_n 1, 1) := by decide +kernel
theorem dL_refuses_24 : decode cL_refuses 24 = .ok (.iconst 2, 1) := by decide +kernel
theorem dL_refuses_25 : decode cL_refuses 25 = .ok (.irem, 1) := by decide +kernel
theorem dL_refuses_26 : decode cL_refuses 26 = .ok (.ifCond .ne 12, 3) := by decide +kernel
theorem dL_refuses_29 : decode cL_refuses 29 = .ok (.iconst (-1), 1) := by decide +kernel
theorem dL_refuses_30 : decode cL_refuses 30 = .ok (.iload_n 1, 1) := by decide +kernel
theorem dL_refuses_31 : decode cL_refuses 31 = .ok (.bipush 99, 2) := by decide +kernel
theorem dL_refuses_33 : decode cL_refuses 33 = .ok (.irem, 1) := by decide +kernel
theorem dL_refuses_34 : decode cL_refuses 34 = .ok (.isub, 1) := by decide +kernel
theorem dL_refuses_35 : decode cL_refuses 35 = .ok (.goto 9, 3) := by decide +kernel
theorem dL_refuses_38 : decode cL_refuses 38 = .ok (.iconst 4, 1) := by decide +kernel
theorem dL_refuses_39 : decode cL_refuses 39 = .ok (.iload_n 1, 1) := by decide +kernel
theorem dL_refuses_40 : decode cL_refuses 40 = .ok (.bipush 99, 2) := by decide +kernel
theorem dL_refuses_42 : decode cL_refuses 42 = .ok (.irem, 1) := by decide +kernel
theorem dL_refuses_43 : decode cL_refuses 43 = .ok (.iadd, 1) := by decide +kernel
theorem dL_refuses_44 : decode cL_refuses 44 = .ok (.istore_n 3, 1) := by decide +kernel
theorem dL_refuses_45 : decode cL_refuses 45 = .ok (.iload_n 1, 1) := by decide +kernel
theorem dL_refuses_46 : decode cL_refuses 46 = .ok (.iconst 2, 1) := by decide +kernel
theorem dL_refuses_47 : decode cL_refuses 47 = .ok (.irem, 1) := by decide +kernel
theorem dL_refuses_48 : decode cL_refuses 48 = .ok (.ifCond .ne 12, 3) := by decide +kernel
theorem dL_refuses_51 : decode cL_refuses 51 = .ok (.iconst (-1), 1) := by decide +kernel
theorem dL_refuses_52 : decode cL_refuses 52 = .ok (.iload_n 1, 1) := by decide +kernel
theorem dL_refuses_53 : decode cL_refuses 53 = .ok (.bipush 99, 2) := by decide +kernel
theorem dL_refuses_55 : decode cL_refuses 55 = .ok (.irem, 1) := by decide +kernel
theorem dL_refuses_56 : decode cL_refuses 56 = .ok (.isub, 1) := by decide +kernel
theorem dL_refuses_57 : decode cL_refuses 57 = .ok (.goto 10, 3) := by decide +kernel
theorem dL_refuses_60 : decode cL_refuses 60 = .ok (.bipush 25, 2) := by decide +kernel
theorem dL_refuses_62 : decode cL_refuses 62 = .ok (.iload_n 1, 1) := by decide +kernel
theorem dL_refuses_63 : decode cL_refuses 63 = .ok (.bipush 99, 2) := by decide +kernel
theorem dL_refuses_65 : decode cL_refuses 65 = .ok (.irem, 1) := by decide +kernel
theorem dL_refuses_66 : decode cL_refuses 66 = .ok (.iadd, 1) := by decide +kernel
theorem dL_refuses_67 : decode cL_refuses 67 = .ok (.istore 4, 2) := by decide +kernel
theorem dL_refuses_69 : decode cL_refuses 69 = .ok (.aload_n 0, 1) := by decide +kernel
theorem dL_refuses_70 : decode cL_refuses 70 = .ok (.iconst 2, 1) := by decide +kernel
theorem dL_refuses_71 : decode cL_refuses 71 = .ok (.iconst 5, 1) := by decide +kernel
theorem dL_refuses_72 : decode cL_refuses 72 = .ok (.iconst 0, 1) := by decide +kernel
theorem dL_refuses_73 : decode cL_refuses 73 = .ok (.iconst 0, 1) := by decide +kernel
theorem dL_refuses_74 : decode cL_refuses 74 = .ok (.invokestatic 139, 3) := by decide +kernel
theorem dL_refuses_77 : decode cL_refuses 77 = .ok (.istore 5, 2) := by decide +kernel
theorem dL_refuses_79 : decode cL_refuses 79 = .ok (.aload_n 0, 1) := by decide +kernel
theorem dL_refuses_80 : decode cL_refuses 80 = .ok (.iconst 2, 1) := by decide +kernel
theorem dL_refuses_81 : decode cL_refuses 81 = .ok (.iconst 1, 1) := by decide +kernel
theorem dL_refuses_82 : decode cL_refuses 82 = .ok (.iconst 0, 1) := by decide +kernel
theorem dL_refuses_83 : decode cL_refuses 83 = .ok (.iconst 0, 1) := by decide +kernel
theorem dL_refuses_84 : decode cL_refuses 84 = .ok (.invokestatic 139, 3) := by decide +kernel
theorem dL_refuses_87 : decode cL_refuses 87 = .ok (.istore 6, 2) := by decide +kernel
theorem dL_refuses_89 : decode cL_refuses 89 = .ok (.aload_n 0, 1) := by decide +kernel
theorem dL_refuses_90 : decode cL_refuses 90 = .ok (.iconst 2, 1) := by decide +kernel
theorem dL_refuses_91 : decode cL_refuses 91 = .ok (.iconst 4, 1) := by decide +kernel
theorem dL_refuses_92 : decode cL_refuses 92 = .ok (.iconst 0, 1) := by decide +kernel
theorem dL_refuses_93 : decode cL_refuses 93 = .ok (.iconst 0, 1) := by decide +kernel
theorem dL_refuses_94 : decode cL_refuses 94 = .ok (.invokestatic 139, 3) := by decide +kernel
theorem dL_refuses_97 : decode cL_refuses 97 = .ok (.istore 7, 2) := by decide +kernel
theorem dL_refuses_99 : decode cL_refuses 99 = .ok (.aload_n 0, 1) := by decide +kernel
theorem dL_refuses_100 : decode cL_refuses 100 = .ok (.iconst 0, 1) := by decide +kernel
theorem dL_refuses_101 : decode cL_refuses 101 = .ok (.iload_n 1, 1) := by decide +kernel
theorem dL_refuses_102 : decode cL_refuses 102 = .ok (.iconst 2, 1) := by decide +kernel
theorem dL_refuses_103 : decode cL_refuses 103 = .ok (.irem, 1) := by decide +kernel
theorem dL_refuses_104 : decode cL_refuses 104 = .ok (.ifCond .ne 12, 3) := by decide +kernel
theorem dL_refuses_107 : decode cL_refuses 107 = .ok (.iconst (-1), 1) := by decide +kernel
theorem dL_refuses_108 : decode cL_refuses 108 = .ok (.iload_n 1, 1) := by decide +kernel
theorem dL_refuses_109 : decode cL_refuses 109 = .ok (.bipush 9, 2) := by decide +kernel
theorem dL_refuses_111 : decode cL_refuses 111 = .ok (.irem, 1) := by decide +kernel
theorem dL_refuses_112 : decode cL_refuses 112 = .ok (.isub, 1) := by decide +kernel
theorem dL_refuses_113 : decode cL_refuses 113 = .ok (.goto 11, 3) := by decide +kernel
theorem dL_refuses_116 : decode cL_refuses 116 = .ok (.sipush 256, 3) := by decide +kernel
theorem dL_refuses_119 : decode cL_refuses 119 = .ok (.iload_n 1, 1) := by decide +kernel
theorem dL_refuses_120 : decode cL_refuses 120 = .ok (.bipush 9, 2) := by decide +kernel
theorem dL_refuses_122 : decode cL_refuses 122 = .ok (.irem, 1) := by decide +kernel
theorem dL_refuses_123 : decode cL_refuses 123 = .ok (.iadd, 1) := by decide +kernel
theorem dL_refuses_124 : decode cL_refuses 124 = .ok (.iconst 0, 1) := by decide +kernel
theorem dL_refuses_125 : decode cL_refuses 125 = .ok (.iconst 0, 1) := by decide +kernel
theorem dL_refuses_126 : decode cL_refuses 126 = .ok (.invokestatic 139, 3) := by decide +kernel
theorem dL_refuses_129 : decode cL_refuses 129 = .ok (.ldc 15, 2) := by decide +kernel
theorem dL_refuses_131 : decode cL_refuses 131 = .ok (.if_icmp .ne 394, 3) := by decide +kernel
theorem dL_refuses_134 : decode cL_refuses 134 = .ok (.aload_n 0, 1) := by decide +kernel
theorem dL_refuses_135 : decode cL_refuses 135 = .ok (.iconst 2, 1) := by decide +kernel
theorem dL_refuses_136 : decode cL_refuses 136 = .ok (.bipush 12, 2) := by decide +kernel
theorem dL_refuses_138 : decode cL_refuses 138 = .ok (.iload_n 1, 1) := by decide +kernel
theorem dL_refuses_139 : decode cL_refuses 139 = .ok (.bipush 50, 2) := by decide +kernel
theorem dL_refuses_141 : decode cL_refuses 141 = .ok (.irem, 1) := by decide +kernel
theorem dL_refuses_142 : decode cL_refuses 142 = .ok (.iadd, 1) := by decide +kernel
theorem dL_refuses_143 : decode cL_refuses 143 = .ok (.iconst 0, 1) := by decide +kernel
theorem dL_refuses_144 : decode cL_refuses 144 = .ok (.iconst 0, 1) := by decide +kernel
theorem dL_refuses_145 : decode cL_refuses 145 = .ok (.invokestatic 139, 3) := by decide +kernel
theorem dL_refuses_148 : decode cL_refuses 148 = .ok (.ldc 15, 2) := by decide +kernel
theorem dL_refuses_150 : decode cL_refuses 150 = .ok (.if_icmp .ne 375, 3) := by decide +kernel
theorem dL_refuses_153 : decode cL_refuses 153 = .ok (.aload_n 0, 1) := by decide +kernel
theorem dL_refuses_154 : decode cL_refuses 154 = .ok (.iconst 3, 1) := by decide +kernel
theorem dL_refuses_155 : decode cL_refuses 155 = .ok (.iload_n 2, 1) := by decide +kernel
theorem dL_refuses_156 : decode cL_refuses 156 = .ok (.bipush 99, 2) := by decide +kernel
theorem dL_refuses_158 : decode cL_refuses 158 = .ok (.iconst 0, 1) := by decide +kernel
theorem dL_refuses_159 : decode cL_refuses 159 = .ok (.invokestatic 139, 3) := by decide +kernel
theorem dL_refuses_162 : decode cL_refuses 162 = .ok (.ldc 22, 2) := by decide +kernel
theorem dL_refuses_164 : decode cL_refuses 164 = .ok (.if_icmp .ne 361, 3) := by decide +kernel
theorem dL_refuses_167 : decode cL_refuses 167 = .ok (.aload_n 0, 1) := by decide +kernel
theorem dL_refuses_168 : decode cL_refuses 168 = .ok (.iconst 3, 1) := by decide +kernel
theorem dL_refuses_169 : decode cL_refuses 169 = .ok (.iconst 5, 1) := by decide +kernel
theorem dL_refuses_170 : decode cL_refuses 170 = .ok (.iconst 5, 1) := by decide +kernel
theorem dL_refuses_171 : decode cL_refuses 171 = .ok (.iload_n 1, 1) := by decide +kernel
theorem dL_refuses_172 : decode cL_refuses 172 = .ok (.bipush 9, 2) := by decide +kernel
theorem dL_refuses_174 : decode cL_refuses 174 = .ok (.irem, 1) := by decide +kernel
theorem dL_refuses_175 : decode cL_refuses 175 = .ok (.iadd, 1) := by decide +kernel
theorem dL_refuses_176 : decode cL_refuses 176 = .ok (.iconst 0, 1) := by decide +kernel
theorem dL_refuses_177 : decode cL_refuses 177 = .ok (.invokestatic 139, 3) := by decide +kernel
theorem dL_refuses_180 : decode cL_refuses 180 = .ok (.ldc 15, 2) := by decide +kernel
theorem dL_refuses_182 : decode cL_refuses 182 = .ok (.if_icmp .ne 343, 3) := by decide +kernel
theorem dL_refuses_185 : decode cL_refuses 185 = .ok (.aload_n 0, 1) := by decide +kernel
theorem dL_refuses_186 : decode cL_refuses 186 = .ok (.iconst 4, 1) := by decide +kernel
theorem dL_refuses_187 : decode cL_refuses 187 = .ok (.iload_n 1, 1) := by decide +kernel
theorem dL_refuses_188 : decode cL_refuses 188 = .ok (.iconst 2, 1) := by decide +kernel
theorem dL_refuses_189 : decode cL_refuses 189 = .ok (.irem, 1) := by decide +kernel
theorem dL_refuses_190 : decode cL_refuses 190 = .ok (.ifCond .ne 7, 3) := by decide +kernel
theorem dL_refuses_193 : decode cL_refuses 193 = .ok (.iconst (-1), 1) := by decide +kernel
theorem dL_refuses_194 : decode cL_refuses 194 = .ok (.goto 10, 3) := by decide +kernel
theorem dL_refuses_197 : decode cL_refuses 197 = .ok (.iload 5, 2) := by decide +kernel
theorem dL_refuses_199 : decode cL_refuses 199 = .ok (.iload_n 1, 1) := by decide +kernel
theorem dL_refuses_200 : decode cL_refuses 200 = .ok (.bipush 9, 2) := by decide +kernel
theorem dL_refuses_202 : decode cL_refuses 202 = .ok (.irem, 1) := by decide +kernel
theorem dL_refuses_203 : decode cL_refuses 203 = .ok (.iadd, 1) := by decide +kernel
theorem dL_refuses_204 : decode cL_refuses 204 = .ok (.bipush 99, 2) := by decide +kernel
theorem dL_refuses_206 : decode cL_refuses 206 = .ok (.iconst 0, 1) := by decide +kernel
theorem dL_refuses_207 : decode cL_refuses 207 = .ok (.invokestatic 139, 3) := by decide +kernel
theorem dL_refuses_210 : decode cL_refuses 210 = .ok (.ldc 22, 2) := by decide +kernel
theorem dL_refuses_212 : decode cL_refuses 212 = .ok (.if_icmp .ne 313, 3) := by decide +kernel
theorem dL_refuses_215 : decode cL_refuses 215 = .ok (.iload 5, 2) := by decide +kernel
theorem dL_refuses_217 : decode cL_refuses 217 = .ok (.ifCond .eq 22, 3) := by decide +kernel
theorem dL_refuses_220 : decode cL_refuses 220 = .ok (.aload_n 0, 1) := by decide +kernel
theorem dL_refuses_221 : decode cL_refuses 221 = .ok (.iconst 4, 1) := by decide +kernel
theorem dL_refuses_222 : decode cL_refuses 222 = .ok (.iconst 0, 1) := by decide +kernel
theorem dL_refuses_223 : decode cL_refuses 223 = .ok (.bipush 6, 2) := by decide +kernel
theorem dL_refuses_225 : decode cL_refuses 225 = .ok (.iload_n 1, 1) := by decide +kernel
theorem dL_refuses_226 : decode cL_refuses 226 = .ok (.bipush 9, 2) := by decide +kernel
theorem dL_refuses_228 : decode cL_refuses 228 = .ok (.irem, 1) := by decide +kernel
theorem dL_refuses_229 : decode cL_refuses 229 = .ok (.iadd, 1) := by decide +kernel
theorem dL_refuses_230 : decode cL_refuses 230 = .ok (.iconst 0, 1) := by decide +kernel
theorem dL_refuses_231 : decode cL_refuses 231 = .ok (.invokestatic 139, 3) := by decide +kernel
theorem dL_refuses_234 : decode cL_refuses 234 = .ok (.ldc 15, 2) := by decide +kernel
theorem dL_refuses_236 : decode cL_refuses 236 = .ok (.if_icmp .ne 289, 3) := by decide +kernel
theorem dL_refuses_239 : decode cL_refuses 239 = .ok (.aload_n 0, 1) := by decide +kernel
theorem dL_refuses_240 : decode cL_refuses 240 = .ok (.iconst 5, 1) := by decide +kernel
theorem dL_refuses_241 : decode cL_refuses 241 = .ok (.iload_n 3, 1) := by decide +kernel
theorem dL_refuses_242 : decode cL_refuses 242 = .ok (.bipush 99, 2) := by decide +kernel
theorem dL_refuses_244 : decode cL_refuses 244 = .ok (.iconst 0, 1) := by decide +kernel
theorem dL_refuses_245 : decode cL_refuses 245 = .ok (.invokestatic 139, 3) := by decide +kernel
theorem dL_refuses_248 : decode cL_refuses 248 = .ok (.ldc 22, 2) := by decide +kernel
theorem dL_refuses_250 : decode cL_refuses 250 = .ok (.if_icmp .ne 275, 3) := by decide +kernel
theorem dL_refuses_253 : decode cL_refuses 253 = .ok (.aload_n 0, 1) := by decide +kernel
theorem dL_refuses_254 : decode cL_refuses 254 = .ok (.iconst 5, 1) := by decide +kernel
theorem dL_refuses_255 : decode cL_refuses 255 = .ok (.iconst 0, 1) := by decide +kernel
theorem dL_refuses_256 : decode cL_refuses 256 = .ok (.iconst 4, 1) := by decide +kernel
theorem dL_refuses_257 : decode cL_refuses 257 = .ok (.iload_n 1, 1) := by decide +kernel
theorem dL_refuses_258 : decode cL_refuses 258 = .ok (.bipush 9, 2) := by decide +kernel
theorem dL_refuses_260 : decode cL_refuses 260 = .ok (.irem, 1) := by decide +kernel
theorem dL_refuses_261 : decode cL_refuses 261 = .ok (.iadd, 1) := by decide +kernel
theorem dL_refuses_262 : decode cL_refuses 262 = .ok (.iconst 0, 1) := by decide +kernel
theorem dL_refuses_263 : decode cL_refuses 263 = .ok (.invokestatic 139, 3) := by decide +kernel
theorem dL_refuses_266 : decode cL_refuses 266 = .ok (.ldc 15, 2) := by decide +kernel
theorem dL_refuses_268 : decode cL_refuses 268 = .ok (.if_icmp .ne 257, 3) := by decide +kernel
theorem dL_refuses_271 : decode cL_refuses 271 = .ok (.aload_n 0, 1) := by decide +kernel
theorem dL_refuses_272 : decode cL_refuses 272 = .ok (.bipush 6, 2) := by decide +kernel
theorem dL_refuses_274 : decode cL_refuses 274 = .ok (.iload 4, 2) := by decide +kernel
theorem dL_refuses_276 : decode cL_refuses 276 = .ok (.iconst 0, 1) := by decide +kernel
theorem dL_refuses_277 : decode cL_refuses 277 = .ok (.iconst 0, 1) := by decide +kernel
theorem dL_refuses_278 : decode cL_refuses 278 = .ok (.invokestatic 139, 3) := by decide +kernel
theorem dL_refuses_281 : decode cL_refuses 281 = .ok (.ldc 22, 2) := by decide +kernel
theorem dL_refuses_283 : decode cL_refuses 283 = .ok (.if_icmp .ne 242, 3) := by decide +kernel
theorem dL_refuses_286 : decode cL_refuses 286 = .ok (.aload_n 0, 1) := by decide +kernel
theorem dL_refuses_287 : decode cL_refuses 287 = .ok (.bipush 6, 2) := by decide +kernel
theorem dL_refuses_289 : decode cL_refuses 289 = .ok (.iconst 0, 1) := by decide +kernel
theorem dL_refuses_290 : decode cL_refuses 290 = .ok (.iload 4, 2) := by decide +kernel
theorem dL_refuses_292 : decode cL_refuses 292 = .ok (.iconst 0, 1) := by decide +kernel
theorem dL_refuses_293 : decode cL_refuses 293 = .ok (.invokestatic 139, 3) := by decide +kernel
theorem dL_refuses_296 : decode cL_refuses 296 = .ok (.ldc 22, 2) := by decide +kernel
theorem dL_refuses_298 : decode cL_refuses 298 = .ok (.if_icmp .ne 227, 3) := by decide +kernel
theorem dL_refuses_301 : decode cL_refuses 301 = .ok (.aload_n 0, 1) := by decide +kernel
theorem dL_refuses_302 : decode cL_refuses 302 = .ok (.bipush 7, 2) := by decide +kernel
theorem dL_refuses_304 : decode cL_refuses 304 = .ok (.iconst 2, 1) := by decide +kernel
theorem dL_refuses_305 : decode cL_refuses 305 = .ok (.iload_n 1, 1) := by decide +kernel
theorem dL_refuses_306 : decode cL_refuses 306 = .ok (.bipush 9, 2) := by decide +kernel
theorem dL_refuses_308 : decode cL_refuses 308 = .ok (.irem, 1) := by decide +kernel
theorem dL_refuses_309 : decode cL_refuses 309 = .ok (.iadd, 1) := by decide +kernel
theorem dL_refuses_310 : decode cL_refuses 310 = .ok (.iconst 0, 1) := by decide +kernel
theorem dL_refuses_311 : decode cL_refuses 311 = .ok (.iconst 0, 1) := by decide +kernel
theorem dL_refuses_312 : decode cL_refuses 312 = .ok (.invokestatic 139, 3) := by decide +kernel
theorem dL_refuses_315 : decode cL_refuses 315 = .ok (.ldc 15, 2) := by decide +kernel
theorem dL_refuses_317 : decode cL_refuses 317 = .ok (.if_icmp .ne 208, 3) := by decide +kernel
theorem dL_refuses_320 : decode cL_refuses 320 = .ok (.aload_n 0, 1) := by decide +kernel
theorem dL_refuses_321 : decode cL_refuses 321 = .ok (.iload_n 1, 1) := by decide +kernel
theorem dL_refuses_322 : decode cL_refuses 322 = .ok (.iconst 2, 1) := by decide +kernel
theorem dL_refuses_323 : decode cL_refuses 323 = .ok (.irem, 1) := by decide +kernel
theorem dL_refuses_324 : decode cL_refuses 324 = .ok (.ifCond .ne 7, 3) := by decide +kernel
theorem dL_refuses_327 : decode cL_refuses 327 = .ok (.iconst 1, 1) := by decide +kernel
theorem dL_refuses_328 : decode cL_refuses 328 = .ok (.goto 9, 3) := by decide +kernel
theorem dL_refuses_331 : decode cL_refuses 331 = .ok (.iconst 5, 1) := by decide +kernel
theorem dL_refuses_332 : decode cL_refuses 332 = .ok (.iload_n 1, 1) := by decide +kernel
theorem dL_refuses_333 : decode cL_refuses 333 = .ok (.bipush 9, 2) := by decide +kernel
theorem dL_refuses_335 : decode cL_refuses 335 = .ok (.irem, 1) := by decide +kernel
theorem dL_refuses_336 : decode cL_refuses 336 = .ok (.iadd, 1) := by decide +kernel
theorem dL_refuses_337 : decode cL_refuses 337 = .ok (.iload_n 1, 1) := by decide +kernel
theorem dL_refuses_338 : decode cL_refuses 338 = .ok (.i2l, 1) := by decide +kernel
theorem dL_refuses_339 : decode cL_refuses 339 = .ok (.invokestatic 143, 3) := by decide +kernel
theorem dL_refuses_342 : decode cL_refuses 342 = .ok (.ldc 15, 2) := by decide +kernel
theorem dL_refuses_344 : decode cL_refuses 344 = .ok (.if_icmp .ne 181, 3) := by decide +kernel
theorem dL_refuses_347 : decode cL_refuses 347 = .ok (.aload_n 0, 1) := by decide +kernel
theorem dL_refuses_348 : decode cL_refuses 348 = .ok (.iload_n 2, 1) := by decide +kernel
theorem dL_refuses_349 : decode cL_refuses 349 = .ok (.iconst 1, 1) := by decide +kernel
theorem dL_refuses_350 : decode cL_refuses 350 = .ok (.invokestatic 147, 3) := by decide +kernel
theorem dL_refuses_353 : decode cL_refuses 353 = .ok (.ldc 22, 2) := by decide +kernel
theorem dL_refuses_355 : decode cL_refuses 355 = .ok (.if_icmp .ne 170, 3) := by decide +kernel
theorem dL_refuses_358 : decode cL_refuses 358 = .ok (.aload_n 0, 1) := by decide +kernel
theorem dL_refuses_359 : decode cL_refuses 359 = .ok (.bipush 11, 2) := by decide +kernel
theorem dL_refuses_361 : decode cL_refuses 361 = .ok (.iload_n 2, 1) := by decide +kernel
theorem dL_refuses_362 : decode cL_refuses 362 = .ok (.iconst 0, 1) := by decide +kernel
theorem dL_refuses_363 : decode cL_refuses 363 = .ok (.iconst 0, 1) := by decide +kernel
theorem dL_refuses_364 : decode cL_refuses 364 = .ok (.invokestatic 139, 3) := by decide +kernel
theorem dL_refuses_367 : decode cL_refuses 367 = .ok (.ldc 22, 2) := by decide +kernel
theorem dL_refuses_369 : decode cL_refuses 369 = .ok (.if_icmp .ne 156, 3) := by decide +kernel
theorem dL_refuses_372 : decode cL_refuses 372 = .ok (.aload_n 0, 1) := by decide +kernel
theorem dL_refuses_373 : decode cL_refuses 373 = .ok (.bipush 12, 2) := by decide +kernel
theorem dL_refuses_375 : decode cL_refuses 375 = .ok (.iload_n 3, 1) := by decide +kernel
theorem dL_refuses_376 : decode cL_refuses 376 = .ok (.bipush 99, 2) := by decide +kernel
theorem dL_refuses_378 : decode cL_refuses 378 = .ok (.iconst 0, 1) := by decide +kernel
theorem dL_refuses_379 : decode cL_refuses 379 = .ok (.invokestatic 139, 3) := by decide +kernel
theorem dL_refuses_382 : decode cL_refuses 382 = .ok (.ldc 22, 2) := by decide +kernel
theorem dL_refuses_384 : decode cL_refuses 384 = .ok (.if_icmp .ne 141, 3) := by decide +kernel
theorem dL_refuses_387 : decode cL_refuses 387 = .ok (.aload_n 0, 1) := by decide +kernel
theorem dL_refuses_388 : decode cL_refuses 388 = .ok (.bipush 12, 2) := by decide +kernel
theorem dL_refuses_390 : decode cL_refuses 390 = .ok (.iconst 0, 1) := by decide +kernel
theorem dL_refuses_391 : decode cL_refuses 391 = .ok (.iload_n 1, 1) := by decide +kernel
theorem dL_refuses_392 : decode cL_refuses 392 = .ok (.iconst 2, 1) := by decide +kernel
theorem dL_refuses_393 : decode cL_refuses 393 = .ok (.irem, 1) := by decide +kernel
theorem dL_refuses_394 : decode cL_refuses 394 = .ok (.ifCond .ne 7, 3) := by decide +kernel
theorem dL_refuses_397 : decode cL_refuses 397 = .ok (.iconst 0, 1) := by decide +kernel
theorem dL_refuses_398 : decode cL_refuses 398 = .ok (.goto 10, 3) := by decide +kernel
theorem dL_refuses_401 : decode cL_refuses 401 = .ok (.bipush 7, 2) := by decide +kernel
theorem dL_refuses_403 : decode cL_refuses 403 = .ok (.iload_n 1, 1) := by decide +kernel
theorem dL_refuses_404 : decode cL_refuses 404 = .ok (.bipush 9, 2) := by decide +kernel
theorem dL_refuses_406 : decode cL_refuses 406 = .ok (.irem, 1) := by decide +kernel
theorem dL_refuses_407 : decode cL_refuses 407 = .ok (.iadd, 1) := by decide +kernel
theorem dL_refuses_408 : decode cL_refuses 408 = .ok (.iconst 0, 1) := by decide +kernel
theorem dL_refuses_409 : decode cL_refuses 409 = .ok (.invokestatic 139, 3) := by decide +kernel
theorem dL_refuses_412 : decode cL_refuses 412 = .ok (.ldc 15, 2) := by decide +kernel
theorem dL_refuses_414 : decode cL_refuses 414 = .ok (.if_icmp .ne 111, 3) := by decide +kernel
theorem dL_refuses_417 : decode cL_refuses 417 = .ok (.aload_n 0, 1) := by decide +kernel
theorem dL_refuses_418 : decode cL_refuses 418 = .ok (.bipush 13, 2) := by decide +kernel
theorem dL_refuses_420 : decode cL_refuses 420 = .ok (.bipush 6, 2) := by decide +kernel
theorem dL_refuses_422 : decode cL_refuses 422 = .ok (.iload_n 1, 1) := by decide +kernel
theorem dL_refuses_423 : decode cL_refuses 423 = .ok (.bipush 9, 2) := by decide +kernel
theorem dL_refuses_425 : decode cL_refuses 425 = .ok (.irem, 1) := by decide +kernel
theorem dL_refuses_426 : decode cL_refuses 426 = .ok (.iadd, 1) := by decide +kernel
theorem dL_refuses_427 : decode cL_refuses 427 = .ok (.iconst 0, 1) := by decide +kernel
theorem dL_refuses_428 : decode cL_refuses 428 = .ok (.iconst 0, 1) := by decide +kernel
theorem dL_refuses_429 : decode cL_refuses 429 = .ok (.invokestatic 139, 3) := by decide +kernel
theorem dL_refuses_432 : decode cL_refuses 432 = .ok (.ldc 15, 2) := by decide +kernel
theorem dL_refuses_434 : decode cL_refuses 434 = .ok (.if_icmp .ne 91, 3) := by decide +kernel
theorem dL_refuses_437 : decode cL_refuses 437 = .ok (.aload_n 0, 1) := by decide +kernel
theorem dL_refuses_438 : decode cL_refuses 438 = .ok (.bipush 14, 2) := by decide +kernel
theorem dL_refuses_440 : decode cL_refuses 440 = .ok (.iconst 2, 1) := by decide +kernel
theorem dL_refuses_441 : decode cL_refuses 441 = .ok (.iload_n 1, 1) := by decide +kernel
theorem dL_refuses_442 : decode cL_refuses 442 = .ok (.bipush 50, 2) := by decide +kernel
theorem dL_refuses_444 : decode cL_refuses 444 = .ok (.irem, 1) := by decide +kernel
theorem dL_refuses_445 : decode cL_refuses 445 = .ok (.iadd, 1) := by decide +kernel
theorem dL_refuses_446 : decode cL_refuses 446 = .ok (.iconst 0, 1) := by decide +kernel
theorem dL_refuses_447 : decode cL_refuses 447 = .ok (.iconst 0, 1) := by decide +kernel
theorem dL_refuses_448 : decode cL_refuses 448 = .ok (.invokestatic 139, 3) := by decide +kernel
theorem dL_refuses_451 : decode cL_refuses 451 = .ok (.ldc 22, 2) := by decide +kernel
theorem dL_refuses_453 : decode cL_refuses 453 = .ok (.if_icmp .ne 72, 3) := by decide +kernel
theorem dL_refuses_456 : decode cL_refuses 456 = .ok (.aload_n 0, 1) := by decide +kernel
theorem dL_refuses_457 : decode cL_refuses 457 = .ok (.bipush 15, 2) := by decide +kernel
theorem dL_refuses_459 : decode cL_refuses 459 = .ok (.iconst (-1), 1) := by decide +kernel
theorem dL_refuses_460 : decode cL_refuses 460 = .ok (.iload_n 1, 1) := by decide +kernel
theorem dL_refuses_461 : decode cL_refuses 461 = .ok (.bipush 9, 2) := by decide +kernel
theorem dL_refuses_463 : decode cL_refuses 463 = .ok (.irem, 1) := by decide +kernel
theorem dL_refuses_464 : decode cL_refuses 464 = .ok (.isub, 1) := by decide +kernel
theorem dL_refuses_465 : decode cL_refuses 465 = .ok (.iconst 0, 1) := by decide +kernel
theorem dL_refuses_466 : decode cL_refuses 466 = .ok (.iconst 0, 1) := by decide +kernel
theorem dL_refuses_467 : decode cL_refuses 467 = .ok (.invokestatic 139, 3) := by decide +kernel
theorem dL_refuses_470 : decode cL_refuses 470 = .ok (.ldc 22, 2) := by decide +kernel
theorem dL_refuses_472 : decode cL_refuses 472 = .ok (.if_icmp .ne 53, 3) := by decide +kernel
theorem dL_refuses_475 : decode cL_refuses 475 = .ok (.aload_n 0, 1) := by decide +kernel
theorem dL_refuses_476 : decode cL_refuses 476 = .ok (.iconst 0, 1) := by decide +kernel
theorem dL_refuses_477 : decode cL_refuses 477 = .ok (.lconst 0, 1) := by decide +kernel
theorem dL_refuses_478 : decode cL_refuses 478 = .ok (.invokestatic 151, 3) := by decide +kernel
theorem dL_refuses_481 : decode cL_refuses 481 = .ok (.ldc 15, 2) := by decide +kernel
theorem dL_refuses_483 : decode cL_refuses 483 = .ok (.if_icmp .ne 42, 3) := by decide +kernel
theorem dL_refuses_486 : decode cL_refuses 486 = .ok (.aload_n 0, 1) := by decide +kernel
theorem dL_refuses_487 : decode cL_refuses 487 = .ok (.iconst 1, 1) := by decide +kernel
theorem dL_refuses_488 : decode cL_refuses 488 = .ok (.ldc2_w 154, 3) := by decide +kernel
theorem dL_refuses_491 : decode cL_refuses 491 = .ok (.iload_n 1, 1) := by decide +kernel
theorem dL_refuses_492 : decode cL_refuses 492 = .ok (.i2l, 1) := by decide +kernel
theorem dL_refuses_493 : decode cL_refuses 493 = .ok (.ladd, 1) := by decide +kernel
theorem dL_refuses_494 : decode cL_refuses 494 = .ok (.invokestatic 151, 3) := by decide +kernel
theorem dL_refuses_497 : decode cL_refuses 497 = .ok (.ldc 15, 2) := by decide +kernel
theorem dL_refuses_499 : decode cL_refuses 499 = .ok (.if_icmp .ne 26, 3) := by decide +kernel
theorem dL_refuses_502 : decode cL_refuses 502 = .ok (.aload_n 0, 1) := by decide +kernel
theorem dL_refuses_503 : decode cL_refuses 503 = .ok (.iload_n 1, 1) := by decide +kernel
theorem dL_refuses_504 : decode cL_refuses 504 = .ok (.i2l, 1) := by decide +kernel
theorem dL_refuses_505 : decode cL_refuses 505 = .ok (.sipush 201, 3) := by decide +kernel
theorem dL_refuses_508 : decode cL_refuses 508 = .ok (.iload_n 1, 1) := by decide +kernel
theorem dL_refuses_509 : decode cL_refuses 509 = .ok (.bipush 9, 2) := by decide +kernel
theorem dL_refuses_511 : decode cL_refuses 511 = .ok (.irem, 1) := by decide +kernel
theorem dL_refuses_512 : decode cL_refuses 512 = .ok (.iadd, 1) := by decide +kernel
theorem dL_refuses_513 : decode cL_refuses 513 = .ok (.invokestatic 156, 3) := by decide +kernel
theorem dL_refuses_516 : decode cL_refuses 516 = .ok (.ldc 15, 2) := by decide +kernel
theorem dL_refuses_518 : decode cL_refuses 518 = .ok (.if_icmp .ne 7, 3) := by decide +kernel
theorem dL_refuses_521 : decode cL_refuses 521 = .ok (.iconst 1, 1) := by decide +kernel
theorem dL_refuses_522 : decode cL_refuses 522 = .ok (.goto 4, 3) := by decide +kernel
theorem dL_refuses_525 : decode cL_refuses 525 = .ok (.iconst 0, 1) := by decide +kernel
theorem dL_refuses_526 : decode cL_refuses 526 = .ok (.istore 8, 2) := by decide +kernel
theorem dL_refuses_528 : decode cL_refuses 528 = .ok (.iload 8, 2) := by decide +kernel
theorem dL_refuses_530 : decode cL_refuses 530 = .ok (.ifCond .eq 112, 3) := by decide +kernel
theorem dL_refuses_533 : decode cL_refuses 533 = .ok (.iload 6, 2) := by decide +kernel
theorem dL_refuses_535 : decode cL_refuses 535 = .ok (.iconst 1, 1) := by decide +kernel
theorem dL_refuses_536 : decode cL_refuses 536 = .ok (.if_icmp .eq 60, 3) := by decide +kernel
theorem dL_refuses_539 : decode cL_refuses 539 = .ok (.aload_n 0, 1) := by decide +kernel
theorem dL_refuses_540 : decode cL_refuses 540 = .ok (.iload_n 1, 1) := by decide +kernel
theorem dL_refuses_541 : decode cL_refuses 541 = .ok (.bipush 28, 2) := by decide +kernel
theorem dL_refuses_543 : decode cL_refuses 543 = .ok (.irem, 1) := by decide +kernel
theorem dL_refuses_544 : decode cL_refuses 544 = .ok (.iconst 1, 1) := by decide +kernel
theorem dL_refuses_545 : decode cL_refuses 545 = .ok (.invokestatic 147, 3) := by decide +kernel
theorem dL_refuses_548 : decode cL_refuses 548 = .ok (.ldc 25, 2) := by decide +kernel
theorem dL_refuses_550 : decode cL_refuses 550 = .ok (.if_icmp .ne 92, 3) := by decide +kernel
theorem dL_refuses_553 : decode cL_refuses 553 = .ok (.aload_n 0, 1) := by decide +kernel
theorem dL_refuses_554 : decode cL_refuses 554 = .ok (.bipush 8, 2) := by decide +kernel
theorem dL_refuses_556 : decode cL_refuses 556 = .ok (.iconst 0, 1) := by decide +kernel
theorem dL_refuses_557 : decode cL_refuses 557 = .ok (.iconst 0, 1) := by decide +kernel
theorem dL_refuses_558 : decode cL_refuses 558 = .ok (.iconst 0, 1) := by decide +kernel
theorem dL_refuses_559 : decode cL_refuses 559 = .ok (.invokestatic 139, 3) := by decide +kernel
theorem dL_refuses_562 : decode cL_refuses 562 = .ok (.ldc 25, 2) := by decide +kernel
theorem dL_refuses_564 : decode cL_refuses 564 = .ok (.if_icmp .ne 78, 3) := by decide +kernel
theorem dL_refuses_567 : decode cL_refuses 567 = .ok (.aload_n 0, 1) := by decide +kernel
theorem dL_refuses_568 : decode cL_refuses 568 = .ok (.bipush 9, 2) := by decide +kernel
theorem dL_refuses_570 : decode cL_refuses 570 = .ok (.iconst 0, 1) := by decide +kernel
theorem dL_refuses_571 : decode cL_refuses 571 = .ok (.iconst 0, 1) := by decide +kernel
theorem dL_refuses_572 : decode cL_refuses 572 = .ok (.iconst 0, 1) := by decide +kernel
theorem dL_refuses_573 : decode cL_refuses 573 = .ok (.invokestatic 139, 3) := by decide +kernel
theorem dL_refuses_576 : decode cL_refuses 576 = .ok (.ldc 25, 2) := by decide +kernel
theorem dL_refuses_578 : decode cL_refuses 578 = .ok (.if_icmp .ne 64, 3) := by decide +kernel
theorem dL_refuses_581 : decode cL_refuses 581 = .ok (.aload_n 0, 1) := by decide +kernel
theorem dL_refuses_582 : decode cL_refuses 582 = .ok (.invokevirtual 160, 3) := by decide +kernel
theorem dL_refuses_585 : decode cL_refuses 585 = .ok (.ifCond .ne 57, 3) := by decide +kernel
theorem dL_refuses_588 : decode cL_refuses 588 = .ok (.aload_n 0, 1) := by decide +kernel
theorem dL_refuses_589 : decode cL_refuses 589 = .ok (.invokevirtual 163, 3) := by decide +kernel
theorem dL_refuses_592 : decode cL_refuses 592 = .ok (.iconst (-1), 1) := by decide +kernel
theorem dL_refuses_593 : decode cL_refuses 593 = .ok (.if_icmp .ne 49, 3) := by decide +kernel
theorem dL_refuses_596 : decode cL_refuses 596 = .ok (.iload 6, 2) := by decide +kernel
theorem dL_refuses_598 : decode cL_refuses 598 = .ok (.iconst 1, 1) := by decide +kernel
theorem dL_refuses_599 : decode cL_refuses 599 = .ok (.if_icmp .ne 39, 3) := by decide +kernel
theorem dL_refuses_602 : decode cL_refuses 602 = .ok (.iload 7, 2) := by decide +kernel
theorem dL_refuses_604 : decode cL_refuses 604 = .ok (.ifCond .le 20, 3) := by decide +kernel
theorem dL_refuses_607 : decode cL_refuses 607 = .ok (.aload_n 0, 1) := by decide +kernel
theorem dL_refuses_608 : decode cL_refuses 608 = .ok (.bipush 9, 2) := by decide +kernel
theorem dL_refuses_610 : decode cL_refuses 610 = .ok (.iconst 0, 1) := by decide +kernel
theorem dL_refuses_611 : decode cL_refuses 611 = .ok (.iconst 0, 1) := by decide +kernel
theorem dL_refuses_612 : decode cL_refuses 612 = .ok (.iconst 0, 1) := by decide +kernel
theorem dL_refuses_613 : decode cL_refuses 613 = .ok (.invokestatic 139, 3) := by decide +kernel
theorem dL_refuses_616 : decode cL_refuses 616 = .ok (.ldc 25, 2) := by decide +kernel
theorem dL_refuses_618 : decode cL_refuses 618 = .ok (.if_icmp .ne 24, 3) := by decide +kernel
theorem dL_refuses_621 : decode cL_refuses 621 = .ok (.goto 17, 3) := by decide +kernel
theorem dL_refuses_624 : decode cL_refuses 624 = .ok (.aload_n 0, 1) := by decide +kernel
theorem dL_refuses_625 : decode cL_refuses 625 = .ok (.bipush 8, 2) := by decide +kernel
theorem dL_refuses_627 : decode cL_refuses 627 = .ok (.iconst 0, 1) := by decide +kernel
theorem dL_refuses_628 : decode cL_refuses 628 = .ok (.iconst 0, 1) := by decide +kernel
theorem dL_refuses_629 : decode cL_refuses 629 = .ok (.iconst 0, 1) := by decide +kernel
theorem dL_refuses_630 : decode cL_refuses 630 = .ok (.invokestatic 139, 3) := by decide +kernel
theorem dL_refuses_633 : decode cL_refuses 633 = .ok (.ldc 25, 2) := by decide +kernel
theorem dL_refuses_635 : decode cL_refuses 635 = .ok (.if_icmp .ne 7, 3) := by decide +kernel
theorem dL_refuses_638 : decode cL_refuses 638 = .ok (.iconst 1, 1) := by decide +kernel
theorem dL_refuses_639 : decode cL_refuses 639 = .ok (.goto 4, 3) := by decide +kernel
theorem dL_refuses_642 : decode cL_refuses 642 = .ok (.iconst 0, 1) := by decide +kernel
theorem dL_refuses_643 : decode cL_refuses 643 = .ok (.ireturn, 1) := by decide +kernel
theorem dL_holds_0 : decode cL_holds 0 = .ok (.aload_n 0, 1) := by decide +kernel
theorem dL_holds_1 : decode cL_holds 1 = .ok (.iconst 2, 1) := by decide +kernel
theorem dL_holds_2 : decode cL_holds 2 = .ok (.iconst 0, 1) := by decide +kernel
theorem dL_holds_3 : decode cL_holds 3 = .ok (.iconst 0, 1) := by decide +kernel
theorem dL_holds_4 : decode cL_holds 4 = .ok (.iconst 0, 1) := by decide +kernel
theorem dL_holds_5 : decode cL_holds 5 = .ok (.invokestatic 139, 3) := by decide +kernel
theorem dL_holds_8 : decode cL_holds 8 = .ok (.istore_n 2, 1) := by decide +kernel
theorem dL_holds_9 : decode cL_holds 9 = .ok (.aload_n 0, 1) := by decide +kernel
theorem dL_holds_10 : decode cL_holds 10 = .ok (.iconst 2, 1) := by decide +kernel
theorem dL_holds_11 : decode cL_holds 11 = .ok (.iconst 1, 1) := by decide +kernel
theorem dL_holds_12 : decode cL_holds 12 = .ok (.iconst 0, 1) := by decide +kernel
theorem dL_holds_13 : decode cL_holds 13 = .ok (.iconst 0, 1) := by decide +kernel
theorem dL_holds_14 : decode cL_holds 14 = .ok (.invokestatic 139, 3) := by decide +kernel
theorem dL_holds_17 : decode cL_holds 17 = .ok (.istore_n 3, 1) := by decide +kernel
theorem dL_holds_18 : decode cL_holds 18 = .ok (.aload_n 0, 1) := by decide +kernel
theorem dL_holds_19 : decode cL_holds 19 = .ok (.iconst 2, 1) := by decide +kernel
theorem dL_holds_20 : decode cL_holds 20 = .ok (.iconst 5, 1) := by decide +kernel
theorem dL_holds_21 : decode cL_holds 21 = .ok (.iconst 0, 1) := by decide +kernel
theorem dL_holds_22 : decode cL_holds 22 = .ok (.iconst 0, 1) := by decide +kernel
theorem dL_holds_23 : decode cL_holds 23 = .ok (.invokestatic 139, 3) := by decide +kernel
theorem dL_holds_26 : decode cL_holds 26 = .ok (.istore 4, 2) := by decide +kernel
theorem dL_holds_28 : decode cL_holds 28 = .ok (.aload_n 0, 1) := by decide +kernel
theorem dL_holds_29 : decode cL_holds 29 = .ok (.iconst 2, 1) := by decide +kernel
theorem dL_holds_30 : decode cL_holds 30 = .ok (.iconst 4, 1) := by decide +kernel
theorem dL_holds_31 : decode cL_holds 31 = .ok (.iconst 0, 1) := by decide +kernel
theorem dL_holds_32 : decode cL_holds 32 = .ok (.iconst 0, 1) := by decide +kernel
theorem dL_holds_33 : decode cL_holds 33 = .ok (.invokestatic 139, 3) := by decide +kernel
theorem dL_holds_36 : decode cL_holds 36 = .ok (.istore 5, 2) := by decide +kernel
theorem dL_holds_38 : decode cL_holds 38 = .ok (.aload_n 0, 1) := by decide +kernel
theorem dL_holds_39 : decode cL_holds 39 = .ok (.iconst 2, 1) := by decide +kernel
theorem dL_holds_40 : decode cL_holds 40 = .ok (.iconst 3, 1) := by decide +kernel
theorem dL_holds_41 : decode cL_holds 41 = .ok (.iconst 0, 1) := by decide +kernel
theorem dL_holds_42 : decode cL_holds 42 = .ok (.iconst 0, 1) := by decide +kernel
theorem dL_holds_43 : decode cL_holds 43 = .ok (.invokestatic 139, 3) := by decide +kernel
theorem dL_holds_46 : decode cL_holds 46 = .ok (.istore 6, 2) := by decide +kernel
theorem dL_holds_48 : decode cL_holds 48 = .ok (.iconst 0, 1) := by decide +kernel
theorem dL_holds_49 : decode cL_holds 49 = .ok (.istore 7, 2) := by decide +kernel
theorem dL_holds_51 : decode cL_holds 51 = .ok (.iconst 0, 1) := by decide +kernel
theorem dL_holds_52 : decode cL_holds 52 = .ok (.istore 8, 2) := by decide +kernel
theorem dL_holds_54 : decode cL_holds 54 = .ok (.iconst 0, 1) := by decide +kernel
theorem dL_holds_55 : decode cL_holds 55 = .ok (.istore 9, 2) := by decide +kernel
theorem dL_holds_57 : decode cL_holds 57 = .ok (.aload_n 0, 1) := by decide +kernel
theorem dL_holds_58 : decode cL_holds 58 = .ok (.invokevirtual 160, 3) := by decide +kernel
theorem dL_holds_61 : decode cL_holds 61 = .ok (.istore 10, 2) := by decide +kernel
theorem dL_holds_63 : decode cL_holds 63 = .ok (.aload_n 0, 1) := by decide +kernel
theorem dL_holds_64 : decode cL_holds 64 = .ok (.invokevirtual 163, 3) := by decide +kernel
theorem dL_holds_67 : decode cL_holds 67 = .ok (.istore 11, 2) := by decide +kernel
theorem dL_holds_69 : decode cL_holds 69 = .ok (.iload_n 3, 1) := by decide +kernel
theorem dL_holds_70 : decode cL_holds 70 = .ok (.ifCond .lt 57, 3) := by decide +kernel
theorem dL_holds_73 : decode cL_holds 73 = .ok (.iload_n 3, 1) := by decide +kernel
theorem dL_holds_74 : decode cL_holds 74 = .ok (.iconst 3, 1) := by decide +kernel
theorem dL_holds_75 : decode cL_holds 75 = .ok (.if_icmp .ge 52, 3) := by decide +kernel
theorem dL_holds_78 : decode cL_holds 78 = .ok (.iload_n 3, 1) := by decide +kernel
theorem dL_holds_79 : decode cL_holds 79 = .ok (.ifCond .ne 7, 3) := by decide +kernel
theorem dL_holds_82 : decode cL_holds 82 = .ok (.iconst 1, 1) := by decide +kernel
theorem dL_holds_83 : decode cL_holds 83 = .ok (.goto 4, 3) := by decide +kernel
theorem dL_holds_86 : decode cL_holds 86 = .ok (.iconst 0, 1) := by decide +kernel
theorem dL_holds_87 : decode cL_holds 87 = .ok (.iload_n 2, 1) := by decide +kernel
theorem dL_holds_88 : decode cL_holds 88 = .ok (.ifCond .ne 7, 3) := by decide +kernel
theorem dL_holds_91 : decode cL_holds 91 = .ok (.iconst 1, 1) := by decide +kernel
theorem dL_holds_92 : decode cL_holds 92 = .ok (.goto 4, 3) := by decide +kernel
theorem dL_holds_95 : decode cL_holds 95 = .ok (.iconst 0, 1) := by decide +kernel
theorem dL_holds_96 : decode cL_holds 96 = .ok (.if_icmp .ne 31, 3) := by decide +kernel
theorem dL_holds_99 : decode cL_holds 99 = .ok (.iload 6, 2) := by decide +kernel
theorem dL_holds_101 : decode cL_holds 101 = .ok (.iconst (-1), 1) := by decide +kernel
theorem dL_holds_102 : decode cL_holds 102 = .ok (.if_icmp .ne 7, 3) := by decide +kernel
theorem dL_holds_105 : decode cL_holds 105 = .ok (.iconst 1, 1) := by decide +kernel
theorem dL_holds_106 : decode cL_holds 106 = .ok (.goto 4, 3) := by decide +kernel
theorem dL_holds_109 : decode cL_holds 109 = .ok (.iconst 0, 1) := by decide +kernel
theorem dL_holds_110 : decode cL_holds 110 = .ok (.iload_n 3, 1) := by decide +kernel
theorem dL_holds_111 : decode cL_holds 111 = .ok (.iconst 1, 1) := by decide +kernel
theorem dL_holds_112 : decode cL_holds 112 = .ok (.if_icmp .eq 7, 3) := by decide +kernel
theorem dL_holds_115 : decode cL_holds 115 = .ok (.iconst 1, 1) := by decide +kernel
theorem dL_holds_116 : decode cL_holds 116 = .ok (.goto 4, 3) := by decide +kernel
theorem dL_holds_119 : decode cL_holds 119 = .ok (.iconst 0, 1) := by decide +kernel
theorem dL_holds_120 : decode cL_holds 120 = .ok (.if_icmp .ne 7, 3) := by decide +kernel
theorem dL_holds_123 : decode cL_holds 123 = .ok (.iconst 1, 1) := by decide +kernel
theorem dL_holds_124 : decode cL_holds 124 = .ok (.goto 4, 3) := by decide +kernel
theorem dL_holds_127 : decode cL_holds 127 = .ok (.iconst 0, 1) := by decide +kernel
theorem dL_holds_128 : decode cL_holds 128 = .ok (.istore 12, 2) := by decide +kernel
theorem dL_holds_130 : decode cL_holds 130 = .ok (.iconst 0, 1) := by decide +kernel
theorem dL_holds_131 : decode cL_holds 131 = .ok (.istore 13, 2) := by decide +kernel
theorem dL_holds_133 : decode cL_holds 133 = .ok (.iload 13, 2) := by decide +kernel
theorem dL_holds_135 : decode cL_holds 135 = .ok (.bipush 28, 2) := by decide +kernel
theorem dL_holds_137 : decode cL_holds 137 = .ok (.if_icmp .ge 342, 3) := by decide +kernel
theorem dL_holds_140 : decode cL_holds 140 = .ok (.iload 12, 2) := by decide +kernel
theorem dL_holds_142 : decode cL_holds 142 = .ok (.ifCond .eq 337, 3) := by decide +kernel
theorem dL_holds_145 : decode cL_holds 145 = .ok (.aload_n 0, 1) := by decide +kernel
theorem dL_holds_146 : decode cL_holds 146 = .ok (.iconst 3, 1) := by decide +kernel
theorem dL_holds_147 : decode cL_holds 147 = .ok (.iload 13, 2) := by decide +kernel
theorem dL_holds_149 : decode cL_holds 149 = .ok (.iconst 2, 1) := by decide +kernel
theorem dL_holds_150 : decode cL_holds 150 = .ok (.iconst 0, 1) := by decide +kernel
theorem dL_holds_151 : decode cL_holds 151 = .ok (.invokestatic 139, 3) := by decide +kernel
theorem dL_holds_154 : decode cL_holds 154 = .ok (.istore 14, 2) := by decide +kernel
theorem dL_holds_156 : decode cL_holds 156 = .ok (.aload_n 0, 1) := by decide +kernel
theorem dL_holds_157 : decode cL_holds 157 = .ok (.iconst 3, 1) := by decide +kernel
theorem dL_holds_158 : decode cL_holds 158 = .ok (.iload 13, 2) := by decide +kernel
theorem dL_holds_160 : decode cL_holds 160 = .ok (.iconst 3, 1) := by decide +kernel
theorem dL_holds_161 : decode cL_holds 161 = .ok (.iconst 0, 1) := by decide +kernel
theorem dL_holds_162 : decode cL_holds 162 = .ok (.invokestatic 139, 3) := by decide +kernel
theorem dL_holds_165 : decode cL_holds 165 = .ok (.istore 15, 2) := by decide +kernel
theorem dL_holds_167 : decode cL_holds 167 = .ok (.aload_n 0, 1) := by decide +kernel
theorem dL_holds_168 : decode cL_holds 168 = .ok (.iconst 3, 1) := by decide +kernel
theorem dL_holds_169 : decode cL_holds 169 = .ok (.iload 13, 2) := by decide +kernel
theorem dL_holds_171 : decode cL_holds 171 = .ok (.iconst 4, 1) := by decide +kernel
theorem dL_holds_172 : decode cL_holds 172 = .ok (.iconst 0, 1) := by decide +kernel
theorem dL_holds_173 : decode cL_holds 173 = .ok (.invokestatic 139, 3) := by decide +kernel
theorem dL_holds_176 : decode cL_holds 176 = .ok (.istore 16, 2) := by decide +kernel
theorem dL_holds_178 : decode cL_holds 178 = .ok (.aload_n 0, 1) := by decide +kernel
theorem dL_holds_179 : decode cL_holds 179 = .ok (.bipush 11, 2) := by decide +kernel
theorem dL_holds_181 : decode cL_holds 181 = .ok (.iload 13, 2) := by decide +kernel
theorem dL_holds_183 : decode cL_holds 183 = .ok (.iconst 0, 1) := by decide +kernel
theorem dL_holds_184 : decode cL_holds 184 = .ok (.iconst 0, 1) := by decide +kernel
theorem dL_holds_185 : decode cL_holds 185 = .ok (.invokestatic 139, 3) := by decide +kernel
theorem dL_holds_188 : decode cL_holds 188 = .ok (.istore 17, 2) := by decide +kernel
theorem dL_holds_190 : decode cL_holds 190 = .ok (.aload_n 0, 1) := by decide +kernel
theorem dL_holds_191 : decode cL_holds 191 = .ok (.iconst 3, 1) := by decide +kernel
theorem dL_holds_192 : decode cL_holds 192 = .ok (.iload 13, 2) := by decide +kernel
theorem dL_holds_194 : decode cL_holds 194 = .ok (.iconst 0, 1) := by decide +kernel
theorem dL_holds_195 : decode cL_holds 195 = .ok (.iconst 0, 1) := by decide +kernel
theorem dL_holds_196 : decode cL_holds 196 = .ok (.invokestatic 139, 3) := by decide +kernel
theorem dL_holds_199 : decode cL_holds 199 = .ok (.aload_n 0, 1) := by decide +kernel
theorem dL_holds_200 : decode cL_holds 200 = .ok (.iconst 3, 1) := by decide +kernel
theorem dL_holds_201 : decode cL_holds 201 = .ok (.iload 13, 2) := by decide +kernel
theorem dL_holds_203 : decode cL_holds 203 = .ok (.iconst 1, 1) := by decide +kernel
theorem dL_holds_204 : decode cL_holds 204 = .ok (.iconst 0, 1) := by decide +kernel
theorem dL_holds_205 : decode cL_holds 205 = .ok (.invokestatic 139, 3) := by decide +kernel
theorem dL_holds_208 : decode cL_holds 208 = .ok (.iadd, 1) := by decide +kernel
theorem dL_holds_209 : decode cL_holds 209 = .ok (.istore 18, 2) := by decide +kernel
theorem dL_holds_211 : decode cL_holds 211 = .ok (.iload 7, 2) := by decide +kernel
theorem dL_holds_213 : decode cL_holds 213 = .ok (.iload 14, 2) := by decide +kernel
theorem dL_holds_215 : decode cL_holds 215 = .ok (.iconst (-1), 1) := by decide +kernel
theorem dL_holds_216 : decode cL_holds 216 = .ok (.if_icmp .ne 7, 3) := by decide +kernel
theorem dL_holds_219 : decode cL_holds 219 = .ok (.iconst 0, 1) := by decide +kernel
theorem dL_holds_220 : decode cL_holds 220 = .ok (.goto 4, 3) := by decide +kernel
theorem dL_holds_223 : decode cL_holds 223 = .ok (.iconst 1, 1) := by decide +kernel
theorem dL_holds_224 : decode cL_holds 224 = .ok (.iadd, 1) := by decide +kernel
theorem dL_holds_225 : decode cL_holds 225 = .ok (.istore 7, 2) := by decide +kernel
theorem dL_holds_227 : decode cL_holds 227 = .ok (.iload 8, 2) := by decide +kernel
theorem dL_holds_229 : decode cL_holds 229 = .ok (.iload 15, 2) := by decide +kernel
theorem dL_holds_231 : decode cL_holds 231 = .ok (.iconst (-1), 1) := by decide +kernel
theorem dL_holds_232 : decode cL_holds 232 = .ok (.if_icmp .ne 7, 3) := by decide +kernel
theorem dL_holds_235 : decode cL_holds 235 = .ok (.iconst 0, 1) := by decide +kernel
theorem dL_holds_236 : decode cL_holds 236 = .ok (.goto 4, 3) := by decide +kernel
theorem dL_holds_239 : decode cL_holds 239 = .ok (.iconst 1, 1) := by decide +kernel
theorem dL_holds_240 : decode cL_holds 240 = .ok (.iadd, 1) := by decide +kernel
theorem dL_holds_241 : decode cL_holds 241 = .ok (.istore 8, 2) := by decide +kernel
theorem dL_holds_243 : decode cL_holds 243 = .ok (.iload 9, 2) := by decide +kernel
theorem dL_holds_245 : decode cL_holds 245 = .ok (.iload 16, 2) := by decide +kernel
theorem dL_holds_247 : decode cL_holds 247 = .ok (.iconst (-1), 1) := by decide +kernel
theorem dL_holds_248 : decode cL_holds 248 = .ok (.if_icmp .ne 7, 3) := by decide +kernel
theorem dL_holds_251 : decode cL_holds 251 = .ok (.iconst 0, 1) := by decide +kernel
theorem dL_holds_252 : decode cL_holds 252 = .ok (.goto 4, 3) := by decide +kernel
theorem dL_holds_255 : decode cL_holds 255 = .ok (.iconst 1, 1) := by decide +kernel
theorem dL_holds_256 : decode cL_holds 256 = .ok (.iadd, 1) := by decide +kernel
theorem dL_holds_257 : decode cL_holds 257 = .ok (.istore 9, 2) := by decide +kernel
theorem dL_holds_259 : decode cL_holds 259 = .ok (.iload 14, 2) := by decide +kernel
theorem dL_holds_261 : decode cL_holds 261 = .ok (.iconst (-1), 1) := by decide +kernel
theorem dL_holds_262 : decode cL_holds 262 = .ok (.if_icmp .ne 7, 3) := by decide +kernel
theorem dL_holds_265 : decode cL_holds 265 = .ok (.iconst 0, 1) := by decide +kernel
theorem dL_holds_266 : decode cL_holds 266 = .ok (.goto 4, 3) := by decide +kernel
theorem dL_holds_269 : decode cL_holds 269 = .ok (.iconst 1, 1) := by decide +kernel
theorem dL_holds_270 : decode cL_holds 270 = .ok (.iload 15, 2) := by decide +kernel
theorem dL_holds_272 : decode cL_holds 272 = .ok (.iconst (-1), 1) := by decide +kernel
theorem dL_holds_273 : decode cL_holds 273 = .ok (.if_icmp .ne 7, 3) := by decide +kernel
theorem dL_holds_276 : decode cL_holds 276 = .ok (.iconst 0, 1) := by decide +kernel
theorem dL_holds_277 : decode cL_holds 277 = .ok (.goto 4, 3) := by decide +kernel
theorem dL_holds_280 : decode cL_holds 280 = .ok (.iconst 1, 1) := by decide +kernel
theorem dL_holds_281 : decode cL_holds 281 = .ok (.iadd, 1) := by decide +kernel
theorem dL_holds_282 : decode cL_holds 282 = .ok (.iload 16, 2) := by decide +kernel
theorem dL_holds_284 : decode cL_holds 284 = .ok (.iconst (-1), 1) := by decide +kernel
theorem dL_holds_285 : decode cL_holds 285 = .ok (.if_icmp .ne 7, 3) := by decide +kernel
theorem dL_holds_288 : decode cL_holds 288 = .ok (.iconst 0, 1) := by decide +kernel
theorem dL_holds_289 : decode cL_holds 289 = .ok (.goto 4, 3) := by decide +kernel
theorem dL_holds_292 : decode cL_holds 292 = .ok (.iconst 1, 1) := by decide +kernel
theorem dL_holds_293 : decode cL_holds 293 = .ok (.iadd, 1) := by decide +kernel
theorem dL_holds_294 : decode cL_holds 294 = .ok (.iload_n 2, 1) := by decide +kernel
theorem dL_holds_295 : decode cL_holds 295 = .ok (.ifCond .ne 7, 3) := by decide +kernel
theorem dL_holds_298 : decode cL_holds 298 = .ok (.iconst 0, 1) := by decide +kernel
theorem dL_holds_299 : decode cL_holds 299 = .ok (.goto 4, 3) := by decide +kernel
theorem dL_holds_302 : decode cL_holds 302 = .ok (.iconst 1, 1) := by decide +kernel
theorem dL_holds_303 : decode cL_holds 303 = .ok (.if_icmp .ne 167, 3) := by decide +kernel
theorem dL_holds_306 : decode cL_holds 306 = .ok (.iload 10, 2) := by decide +kernel
theorem dL_holds_308 : decode cL_holds 308 = .ok (.iload 13, 2) := by decide +kernel
theorem dL_holds_310 : decode cL_holds 310 = .ok (.ishr, 1) := by decide +kernel
theorem dL_holds_311 : decode cL_holds 311 = .ok (.iconst 1, 1) := by decide +kernel
theorem dL_holds_312 : decode cL_holds 312 = .ok (.iand, 1) := by decide +kernel
theorem dL_holds_313 : decode cL_holds 313 = .ok (.iload 17, 2) := by decide +kernel
theorem dL_holds_315 : decode cL_holds 315 = .ok (.ifCond .ne 7, 3) := by decide +kernel
theorem dL_holds_318 : decode cL_holds 318 = .ok (.iconst 1, 1) := by decide +kernel
theorem dL_holds_319 : decode cL_holds 319 = .ok (.goto 4, 3) := by decide +kernel
theorem dL_holds_322 : decode cL_holds 322 = .ok (.iconst 0, 1) := by decide +kernel
theorem dL_holds_323 : decode cL_holds 323 = .ok (.if_icmp .ne 147, 3) := by decide +kernel
theorem dL_holds_326 : decode cL_holds 326 = .ok (.iload 17, 2) := by decide +kernel
theorem dL_holds_328 : decode cL_holds 328 = .ok (.iconst (-1), 1) := by decide +kernel
theorem dL_holds_329 : decode cL_holds 329 = .ok (.if_icmp .ne 7, 3) := by decide +kernel
theorem dL_holds_332 : decode cL_holds 332 = .ok (.iconst 1, 1) := by decide +kernel
theorem dL_holds_333 : decode cL_holds 333 = .ok (.goto 4, 3) := by decide +kernel
theorem dL_holds_336 : decode cL_holds 336 = .ok (.iconst 0, 1) := by decide +kernel
theorem dL_holds_337 : decode cL_holds 337 = .ok (.iload_n 3, 1) := by decide +kernel
theorem dL_holds_338 : decode cL_holds 338 = .ok (.iconst 1, 1) := by decide +kernel
theorem dL_holds_339 : decode cL_holds 339 = .ok (.if_icmp .eq 7, 3) := by decide +kernel
theorem dL_holds_342 : decode cL_holds 342 = .ok (.iconst 1, 1) := by decide +kernel
theorem dL_holds_343 : decode cL_holds 343 = .ok (.goto 4, 3) := by decide +kernel
theorem dL_holds_346 : decode cL_holds 346 = .ok (.iconst 0, 1) := by decide +kernel
theorem dL_holds_347 : decode cL_holds 347 = .ok (.if_icmp .ne 123, 3) := by decide +kernel
theorem dL_holds_350 : decode cL_holds 350 = .ok (.iload_n 3, 1) := by decide +kernel
theorem dL_holds_351 : decode cL_holds 351 = .ok (.iconst 1, 1) := by decide +kernel
theorem dL_holds_352 : decode cL_holds 352 = .ok (.if_icmp .ne 29, 3) := by decide +kernel
theorem dL_holds_355 : decode cL_holds 355 = .ok (.iload 17, 2) := by decide +kernel
theorem dL_holds_357 : decode cL_holds 357 = .ok (.iconst 1, 1) := by decide +kernel
theorem dL_holds_358 : decode cL_holds 358 = .ok (.if_icmp .ne 7, 3) := by decide +kernel
theorem dL_holds_361 : decode cL_holds 361 = .ok (.iconst 1, 1) := by decide +kernel
theorem dL_holds_362 : decode cL_holds 362 = .ok (.goto 4, 3) := by decide +kernel
theorem dL_holds_365 : decode cL_holds 365 = .ok (.iconst 0, 1) := by decide +kernel
theorem dL_holds_366 : decode cL_holds 366 = .ok (.iload 14, 2) := by decide +kernel
theorem dL_holds_368 : decode cL_holds 368 = .ok (.iload 6, 2) := by decide +kernel
theorem dL_holds_370 : decode cL_holds 370 = .ok (.if_icmp .eq 7, 3) := by decide +kernel
theorem dL_holds_373 : decode cL_holds 373 = .ok (.iconst 1, 1) := by decide +kernel
theorem dL_holds_374 : decode cL_holds 374 = .ok (.goto 4, 3) := by decide +kernel
theorem dL_holds_377 : decode cL_holds 377 = .ok (.iconst 0, 1) := by decide +kernel
theorem dL_holds_378 : decode cL_holds 378 = .ok (.if_icmp .ne 92, 3) := by decide +kernel
theorem dL_holds_381 : decode cL_holds 381 = .ok (.iload 15, 2) := by decide +kernel
theorem dL_holds_383 : decode cL_holds 383 = .ok (.iconst (-1), 1) := by decide +kernel
theorem dL_holds_384 : decode cL_holds 384 = .ok (.if_icmp .eq 17, 3) := by decide +kernel
theorem dL_holds_387 : decode cL_holds 387 = .ok (.aload_n 0, 1) := by decide +kernel
theorem dL_holds_388 : decode cL_holds 388 = .ok (.iconst 4, 1) := by decide +kernel
theorem dL_holds_389 : decode cL_holds 389 = .ok (.iload 15, 2) := by decide +kernel
theorem dL_holds_391 : decode cL_holds 391 = .ok (.iconst 0, 1) := by decide +kernel
theorem dL_holds_392 : decode cL_holds 392 = .ok (.iconst 0, 1) := by decide +kernel
theorem dL_holds_393 : decode cL_holds 393 = .ok (.invokestatic 139, 3) := by decide +kernel
theorem dL_holds_396 : decode cL_holds 396 = .ok (.iload 13, 2) := by decide +kernel
theorem dL_holds_398 : decode cL_holds 398 = .ok (.if_icmp .ne 72, 3) := by decide +kernel
theorem dL_holds_401 : decode cL_holds 401 = .ok (.iload 10, 2) := by decide +kernel
theorem dL_holds_403 : decode cL_holds 403 = .ok (.iload 13, 2) := by decide +kernel
theorem dL_holds_405 : decode cL_holds 405 = .ok (.ishr, 1) := by decide +kernel
theorem dL_holds_406 : decode cL_holds 406 = .ok (.iconst 1, 1) := by decide +kernel
theorem dL_holds_407 : decode cL_holds 407 = .ok (.iand, 1) := by decide +kernel
theorem dL_holds_408 : decode cL_holds 408 = .ok (.ifCond .eq 58, 3) := by decide +kernel
theorem dL_holds_411 : decode cL_holds 411 = .ok (.iload 18, 2) := by decide +kernel
theorem dL_holds_413 : decode cL_holds 413 = .ok (.aload_n 0, 1) := by decide +kernel
theorem dL_holds_414 : decode cL_holds 414 = .ok (.iconst 3, 1) := by decide +kernel
theorem dL_holds_415 : decode cL_holds 415 = .ok (.iload 11, 2) := by decide +kernel
theorem dL_holds_417 : decode cL_holds 417 = .ok (.iconst 0, 1) := by decide +kernel
theorem dL_holds_418 : decode cL_holds 418 = .ok (.iconst 0, 1) := by decide +kernel
theorem dL_holds_419 : decode cL_holds 419 = .ok (.invokestatic 139, 3) := by decide +kernel
theorem dL_holds_422 : decode cL_holds 422 = .ok (.aload_n 0, 1) := by decide +kernel
theorem dL_holds_423 : decode cL_holds 423 = .ok (.iconst 3, 1) := by decide +kernel
theorem dL_holds_424 : decode cL_holds 424 = .ok (.iload 11, 2) := by decide +kernel
theorem dL_holds_426 : decode cL_holds 426 = .ok (.iconst 1, 1) := by decide +kernel
theorem dL_holds_427 : decode cL_holds 427 = .ok (.iconst 0, 1) := by decide +kernel
theorem dL_holds_428 : decode cL_holds 428 = .ok (.invokestatic 139, 3) := by decide +kernel
theorem dL_holds_431 : decode cL_holds 431 = .ok (.iadd, 1) := by decide +kernel
theorem dL_holds_432 : decode cL_holds 432 = .ok (.if_icmp .lt 34, 3) := by decide +kernel
theorem dL_holds_435 : decode cL_holds 435 = .ok (.iload 18, 2) := by decide +kernel
theorem dL_holds_437 : decode cL_holds 437 = .ok (.aload_n 0, 1) := by decide +kernel
theorem dL_holds_438 : decode cL_holds 438 = .ok (.iconst 3, 1) := by decide +kernel
theorem dL_holds_439 : decode cL_holds 439 = .ok (.iload 11, 2) := by decide +kernel
theorem dL_holds_441 : decode cL_holds 441 = .ok (.iconst 0, 1) := by decide +kernel
theorem dL_holds_442 : decode cL_holds 442 = .ok (.iconst 0, 1) := by decide +kernel
theorem dL_holds_443 : decode cL_holds 443 = .ok (.invokestatic 139, 3) := by decide +kernel
theorem dL_holds_446 : decode cL_holds 446 = .ok (.aload_n 0, 1) := by decide +kernel
theorem dL_holds_447 : decode cL_holds 447 = .ok (.iconst 3, 1) := by decide +kernel
theorem dL_holds_448 : decode cL_holds 448 = .ok (.iload 11, 2) := by decide +kernel
theorem dL_holds_450 : decode cL_holds 450 = .ok (.iconst 1, 1) := by decide +kernel
theorem dL_holds_451 : decode cL_holds 451 = .ok (.iconst 0, 1) := by decide +kernel
theorem dL_holds_452 : decode cL_holds 452 = .ok (.invokestatic 139, 3) := by decide +kernel
theorem dL_holds_455 : decode cL_holds 455 = .ok (.iadd, 1) := by decide +kernel
theorem dL_holds_456 : decode cL_holds 456 = .ok (.if_icmp .ne 14, 3) := by decide +kernel
theorem dL_holds_459 : decode cL_holds 459 = .ok (.iload 13, 2) := by decide +kernel
theorem dL_holds_461 : decode cL_holds 461 = .ok (.iload 11, 2) := by decide +kernel
theorem dL_holds_463 : decode cL_holds 463 = .ok (.if_icmp .lt 7, 3) := by decide +kernel
theorem dL_holds_466 : decode cL_holds 466 = .ok (.iconst 1, 1) := by decide +kernel
theorem dL_holds_467 : decode cL_holds 467 = .ok (.goto 4, 3) := by decide +kernel
theorem dL_holds_470 : decode cL_holds 470 = .ok (.iconst 0, 1) := by decide +kernel
theorem dL_holds_471 : decode cL_holds 471 = .ok (.istore 12, 2) := by decide +kernel
theorem dL_holds_473 : decode cL_holds 473 = .ok (.iinc 13 1, 3) := by decide +kernel
theorem dL_holds_476 : decode cL_holds 476 = .ok (.goto (-343), 3) := by decide +kernel
theorem dL_holds_479 : decode cL_holds 479 = .ok (.iconst 0, 1) := by decide +kernel
theorem dL_holds_480 : decode cL_holds 480 = .ok (.istore 13, 2) := by decide +kernel
theorem dL_holds_482 : decode cL_holds 482 = .ok (.iconst (-1), 1) := by decide +kernel
theorem dL_holds_483 : decode cL_holds 483 = .ok (.istore 14, 2) := by decide +kernel
theorem dL_holds_485 : decode cL_holds 485 = .ok (.iconst 0, 1) := by decide +kernel
theorem dL_holds_486 : decode cL_holds 486 = .ok (.istore 15, 2) := by decide +kernel
theorem dL_holds_488 : decode cL_holds 488 = .ok (.iconst 0, 1) := by decide +kernel
theorem dL_holds_489 : decode cL_holds 489 = .ok (.istore 16, 2) := by decide +kernel
theorem dL_holds_491 : decode cL_holds 491 = .ok (.iload 16, 2) := by decide +kernel
theorem dL_holds_493 : decode cL_holds 493 = .ok (.iload 4, 2) := by decide +kernel
theorem dL_holds_495 : decode cL_holds 495 = .ok (.if_icmp .ge 270, 3) := by decide +kernel
theorem dL_holds_498 : decode cL_holds 498 = .ok (.iload 12, 2) := by decide +kernel
theorem dL_holds_500 : decode cL_holds 500 = .ok (.ifCond .eq 265, 3) := by decide +kernel
theorem dL_holds_503 : decode cL_holds 503 = .ok (.aload_n 0, 1) := by decide +kernel
theorem dL_holds_504 : decode cL_holds 504 = .ok (.iconst 4, 1) := by decide +kernel
theorem dL_holds_505 : decode cL_holds 505 = .ok (.iload 16, 2) := by decide +kernel
theorem dL_holds_507 : decode cL_holds 507 = .ok (.iconst 4, 1) := by decide +kernel
theorem dL_holds_508 : decode cL_holds 508 = .ok (.iconst 0, 1) := by decide +kernel
theorem dL_holds_509 : decode cL_holds 509 = .ok (.invokestatic 139, 3) := by decide +kernel
theorem dL_holds_512 : decode cL_holds 512 = .ok (.istore 17, 2) := by decide +kernel
theorem dL_holds_514 : decode cL_holds 514 = .ok (.aload_n 0, 1) := by decide +kernel
theorem dL_holds_515 : decode cL_holds 515 = .ok (.iconst 4, 1) := by decide +kernel
theorem dL_holds_516 : decode cL_holds 516 = .ok (.iload 16, 2) := by decide +kernel
theorem dL_holds_518 : decode cL_holds 518 = .ok (.iconst 5, 1) := by decide +kernel
theorem dL_holds_519 : decode cL_holds 519 = .ok (.iconst 0, 1) := by decide +kernel
theorem dL_holds_520 : decode cL_holds 520 = .ok (.invokestatic 139, 3) := by decide +kernel
theorem dL_holds_523 : decode cL_holds 523 = .ok (.istore 18, 2) := by decide +kernel
theorem dL_holds_525 : decode cL_holds 525 = .ok (.aload_n 0, 1) := by decide +kernel
theorem dL_holds_526 : decode cL_holds 526 = .ok (.iconst 4, 1) := by decide +kernel
theorem dL_holds_527 : decode cL_holds 527 = .ok (.iload 16, 2) := by decide +kernel
theorem dL_holds_529 : decode cL_holds 529 = .ok (.iconst 3, 1) := by decide +kernel
theorem dL_holds_530 : decode cL_holds 530 = .ok (.iconst 0, 1) := by decide +kernel
theorem dL_holds_531 : decode cL_holds 531 = .ok (.invokestatic 139, 3) := by decide +kernel
theorem dL_holds_534 : decode cL_holds 534 = .ok (.istore 19, 2) := by decide +kernel
theorem dL_holds_536 : decode cL_holds 536 = .ok (.aload_n 0, 1) := by decide +kernel
theorem dL_holds_537 : decode cL_holds 537 = .ok (.iconst 4, 1) := by decide +kernel
theorem dL_holds_538 : decode cL_holds 538 = .ok (.iload 16, 2) := by decide +kernel
theorem dL_holds_540 : decode cL_holds 540 = .ok (.iconst 1, 1) := by decide +kernel
theorem dL_holds_541 : decode cL_holds 541 = .ok (.iconst 0, 1) := by decide +kernel
theorem dL_holds_542 : decode cL_holds 542 = .ok (.invokestatic 139, 3) := by decide +kernel
theorem dL_holds_545 : decode cL_holds 545 = .ok (.istore 20, 2) := by decide +kernel
theorem dL_holds_547 : decode cL_holds 547 = .ok (.aload_n 0, 1) := by decide +kernel
theorem dL_holds_548 : decode cL_holds 548 = .ok (.iconst 4, 1) := by decide +kernel
theorem dL_holds_549 : decode cL_holds 549 = .ok (.iload 16, 2) := by decide +kernel
theorem dL_holds_551 : decode cL_holds 551 = .ok (.iconst 2, 1) := by decide +kernel
theorem dL_holds_552 : decode cL_holds 552 = .ok (.iconst 0, 1) := by decide +kernel
theorem dL_holds_553 : decode cL_holds 553 = .ok (.invokestatic 139, 3) := by decide +kernel
theorem dL_holds_556 : decode cL_holds 556 = .ok (.istore 21, 2) := by decide +kernel
theorem dL_holds_558 : decode cL_holds 558 = .ok (.iload 20, 2) := by decide +kernel
theorem dL_holds_560 : decode cL_holds 560 = .ok (.iload 19, 2) := by decide +kernel
theorem dL_holds_562 : decode cL_holds 562 = .ok (.ifCond .ne 7, 3) := by decide +kernel
theorem dL_holds_565 : decode cL_holds 565 = .ok (.iconst 1, 1) := by decide +kernel
theorem dL_holds_566 : decode cL_holds 566 = .ok (.goto 14, 3) := by decide +kernel
theorem dL_holds_569 : decode cL_holds 569 = .ok (.iload 19, 2) := by decide +kernel
theorem dL_holds_571 : decode cL_holds 571 = .ok (.iconst 2, 1) := by decide +kernel
theorem dL_holds_572 : decode cL_holds 572 = .ok (.if_icmp .ne 7, 3) := by decide +kernel
theorem dL_holds_575 : decode cL_holds 575 = .ok (.iconst (-1), 1) := by decide +kernel
theorem dL_holds_576 : decode cL_holds 576 = .ok (.goto 4, 3) := by decide +kernel
theorem dL_holds_579 : decode cL_holds 579 = .ok (.iconst 0, 1) := by decide +kernel
theorem dL_holds_580 : decode cL_holds 580 = .ok (.iadd, 1) := by decide +kernel
theorem dL_holds_581 : decode cL_holds 581 = .ok (.istore 22, 2) := by decide +kernel
theorem dL_holds_583 : decode cL_holds 583 = .ok (.iload 21, 2) := by decide +kernel
theorem dL_holds_585 : decode cL_holds 585 = .ok (.iload 19, 2) := by decide +kernel
theorem dL_holds_587 : decode cL_holds 587 = .ok (.iconst 1, 1) := by decide +kernel
theorem dL_holds_588 : decode cL_holds 588 = .ok (.if_icmp .ne 7, 3) := by decide +kernel
theorem dL_holds_591 : decode cL_holds 591 = .ok (.iconst 1, 1) := by decide +kernel
theorem dL_holds_592 : decode cL_holds 592 = .ok (.goto 14, 3) := by decide +kernel
theorem dL_holds_595 : decode cL_holds 595 = .ok (.iload 19, 2) := by decide +kernel
theorem dL_holds_597 : decode cL_holds 597 = .ok (.iconst 3, 1) := by decide +kernel
theorem dL_holds_598 : decode cL_holds 598 = .ok (.if_icmp .ne 7, 3) := by decide +kernel
theorem dL_holds_601 : decode cL_holds 601 = .ok (.iconst (-1), 1) := by decide +kernel
theorem dL_holds_602 : decode cL_holds 602 = .ok (.goto 4, 3) := by decide +kernel
theorem dL_holds_605 : decode cL_holds 605 = .ok (.iconst 0, 1) := by decide +kernel
theorem dL_holds_606 : decode cL_holds 606 = .ok (.iadd, 1) := by decide +kernel
theorem dL_holds_607 : decode cL_holds 607 = .ok (.istore 23, 2) := by decide +kernel
theorem dL_holds_609 : decode cL_holds 609 = .ok (.iload 13, 2) := by decide +kernel
theorem dL_holds_611 : decode cL_holds 611 = .ok (.iload 17, 2) := by decide +kernel
theorem dL_holds_613 : decode cL_holds 613 = .ok (.iload 18, 2) := by decide +kernel
theorem dL_holds_615 : decode cL_holds 615 = .ok (.iadd, 1) := by decide +kernel
theorem dL_holds_616 : decode cL_holds 616 = .ok (.iadd, 1) := by decide +kernel
theorem dL_holds_617 : decode cL_holds 617 = .ok (.istore 13, 2) := by decide +kernel
theorem dL_holds_619 : decode cL_holds 619 = .ok (.iload 14, 2) := by decide +kernel
theorem dL_holds_621 : decode cL_holds 621 = .ok (.iconst (-1), 1) := by decide +kernel
theorem dL_holds_622 : decode cL_holds 622 = .ok (.if_icmp .ne 32, 3) := by decide +kernel
theorem dL_holds_625 : decode cL_holds 625 = .ok (.iload 20, 2) := by decide +kernel
theorem dL_holds_627 : decode cL_holds 627 = .ok (.bipush 12, 2) := by decide +kernel
theorem dL_holds_629 : decode cL_holds 629 = .ok (.if_icmp .ne 106, 3) := by decide +kernel
theorem dL_holds_632 : decode cL_holds 632 = .ok (.iload 21, 2) := by decide +kernel
theorem dL_holds_634 : decode cL_holds 634 = .ok (.bipush 12, 2) := by decide +kernel
theorem dL_holds_636 : decode cL_holds 636 = .ok (.if_icmp .ne 99, 3) := by decide +kernel
theorem dL_holds_639 : decode cL_holds 639 = .ok (.iload 19, 2) := by decide +kernel
theorem dL_holds_641 : decode cL_holds 641 = .ok (.ifCond .ne 94, 3) := by decide +kernel
theorem dL_holds_644 : decode cL_holds 644 = .ok (.iload 17, 2) := by decide +kernel
theorem dL_holds_646 : decode cL_holds 646 = .ok (.iload 18, 2) := by decide +kernel
theorem dL_holds_648 : decode cL_holds 648 = .ok (.if_icmp .gt 87, 3) := by decide +kernel
theorem dL_holds_651 : decode cL_holds 651 = .ok (.goto 10, 3) := by decide +kernel
theorem dL_holds_654 : decode cL_holds 654 = .ok (.iload 17, 2) := by decide +kernel
theorem dL_holds_656 : decode cL_holds 656 = .ok (.iload 14, 2) := by decide +kernel
theorem dL_holds_658 : decode cL_holds 658 = .ok (.if_icmp .ne 77, 3) := by decide +kernel
theorem dL_holds_661 : decode cL_holds 661 = .ok (.aload_n 0, 1) := by decide +kernel
theorem dL_holds_662 : decode cL_holds 662 = .ok (.bipush 6, 2) := by decide +kernel
theorem dL_holds_664 : decode cL_holds 664 = .ok (.iload 20, 2) := by decide +kernel
theorem dL_holds_666 : decode cL_holds 666 = .ok (.iload 21, 2) := by decide +kernel
theorem dL_holds_668 : decode cL_holds 668 = .ok (.iconst 0, 1) := by decide +kernel
theorem dL_holds_669 : decode cL_holds 669 = .ok (.invokestatic 139, 3) := by decide +kernel
theorem dL_holds_672 : decode cL_holds 672 = .ok (.iload 17, 2) := by decide +kernel
theorem dL_holds_674 : decode cL_holds 674 = .ok (.if_icmp .ne 61, 3) := by decide +kernel
theorem dL_holds_677 : decode cL_holds 677 = .ok (.aload_n 0, 1) := by decide +kernel
theorem dL_holds_678 : decode cL_holds 678 = .ok (.bipush 6, 2) := by decide +kernel
theorem dL_holds_680 : decode cL_holds 680 = .ok (.iload 22, 2) := by decide +kernel
theorem dL_holds_682 : decode cL_holds 682 = .ok (.iload 23, 2) := by decide +kernel
theorem dL_holds_684 : decode cL_holds 684 = .ok (.iconst 0, 1) := by decide +kernel
theorem dL_holds_685 : decode cL_holds 685 = .ok (.invokestatic 139, 3) := by decide +kernel
theorem dL_holds_688 : decode cL_holds 688 = .ok (.iload 18, 2) := by decide +kernel
theorem dL_holds_690 : decode cL_holds 690 = .ok (.if_icmp .ne 45, 3) := by decide +kernel
theorem dL_holds_693 : decode cL_holds 693 = .ok (.iload 16, 2) := by decide +kernel
theorem dL_holds_695 : decode cL_holds 695 = .ok (.iconst 1, 1) := by decide +kernel
theorem dL_holds_696 : decode cL_holds 696 = .ok (.iadd, 1) := by decide +kernel
theorem dL_holds_697 : decode cL_holds 697 = .ok (.iload 4, 2) := by decide +kernel
theorem dL_holds_699 : decode cL_holds 699 = .ok (.if_icmp .eq 32, 3) := by decide +kernel
theorem dL_holds_702 : decode cL_holds 702 = .ok (.aload_n 0, 1) := by decide +kernel
theorem dL_holds_703 : decode cL_holds 703 = .ok (.iload 16, 2) := by decide +kernel
theorem dL_holds_705 : decode cL_holds 705 = .ok (.iconst 1, 1) := by decide +kernel
theorem dL_holds_706 : decode cL_holds 706 = .ok (.iadd, 1) := by decide +kernel
theorem dL_holds_707 : decode cL_holds 707 = .ok (.iload 22, 2) := by decide +kernel
theorem dL_holds_709 : decode cL_holds 709 = .ok (.iload 23, 2) := by decide +kernel
theorem dL_holds_711 : decode cL_holds 711 = .ok (.iload 19, 2) := by decide +kernel
theorem dL_holds_713 : decode cL_holds 713 = .ok (.iload 17, 2) := by decide +kernel
theorem dL_holds_715 : decode cL_holds 715 = .ok (.iload 18, 2) := by decide +kernel
theorem dL_holds_717 : decode cL_holds 717 = .ok (.if_icmp .ne 7, 3) := by decide +kernel
theorem dL_holds_720 : decode cL_holds 720 = .ok (.iconst 1, 1) := by decide +kernel
theorem dL_holds_721 : decode cL_holds 721 = .ok (.goto 4, 3) := by decide +kernel
theorem dL_holds_724 : decode cL_holds 724 = .ok (.iconst 0, 1) := by decide +kernel
theorem dL_holds_725 : decode cL_holds 725 = .ok (.invokestatic 166, 3) := by decide +kernel
theorem dL_holds_728 : decode cL_holds 728 = .ok (.ifCond .eq 7, 3) := by decide +kernel
theorem dL_holds_731 : decode cL_holds 731 = .ok (.iconst 1, 1) := by decide +kernel
theorem dL_holds_732 : decode cL_holds 732 = .ok (.goto 4, 3) := by decide +kernel
theorem dL_holds_735 : decode cL_holds 735 = .ok (.iconst 0, 1) := by decide +kernel
theorem dL_holds_736 : decode cL_holds 736 = .ok (.istore 12, 2) := by decide +kernel
theorem dL_holds_738 : decode cL_holds 738 = .ok (.iload 15, 2) := by decide +kernel
theorem dL_holds_740 : decode cL_holds 740 = .ok (.iload 17, 2) := by decide +kernel
theorem dL_holds_742 : decode cL_holds 742 = .ok (.iload 18, 2) := by decide +kernel
theorem dL_holds_744 : decode cL_holds 744 = .ok (.if_icmp .ne 7, 3) := by decide +kernel
theorem dL_holds_747 : decode cL_holds 747 = .ok (.iconst 1, 1) := by decide +kernel
theorem dL_holds_748 : decode cL_holds 748 = .ok (.goto 4, 3) := by decide +kernel
theorem dL_holds_751 : decode cL_holds 751 = .ok (.iconst 0, 1) := by decide +kernel
theorem dL_holds_752 : decode cL_holds 752 = .ok (.iadd, 1) := by decide +kernel
theorem dL_holds_753 : decode cL_holds 753 = .ok (.istore 15, 2) := by decide +kernel
theorem dL_holds_755 : decode cL_holds 755 = .ok (.iload 18, 2) := by decide +kernel
theorem dL_holds_757 : decode cL_holds 757 = .ok (.istore 14, 2) := by decide +kernel
theorem dL_holds_759 : decode cL_holds 759 = .ok (.iinc 16 1, 3) := by decide +kernel
theorem dL_holds_762 : decode cL_holds 762 = .ok (.goto (-271), 3) := by decide +kernel
theorem dL_holds_765 : decode cL_holds 765 = .ok (.iconst 1, 1) := by decide +kernel
theorem dL_holds_766 : decode cL_holds 766 = .ok (.iload_n 1, 1) := by decide +kernel
theorem dL_holds_767 : decode cL_holds 767 = .ok (.bipush 6, 2) := by decide +kernel
theorem dL_holds_769 : decode cL_holds 769 = .ok (.irem, 1) := by decide +kernel
theorem dL_holds_770 : decode cL_holds 770 = .ok (.iadd, 1) := by decide +kernel
theorem dL_holds_771 : decode cL_holds 771 = .ok (.istore 16, 2) := by decide +kernel
theorem dL_holds_773 : decode cL_holds 773 = .ok (.iconst 0, 1) := by decide +kernel
theorem dL_holds_774 : decode cL_holds 774 = .ok (.istore 17, 2) := by decide +kernel
theorem dL_holds_776 : decode cL_holds 776 = .ok (.iconst 0, 1) := by decide +kernel
theorem dL_holds_777 : decode cL_holds 777 = .ok (.istore 18, 2) := by decide +kernel
theorem dL_holds_779 : decode cL_holds 779 = .ok (.iload 18, 2) := by decide +kernel
theorem dL_holds_781 : decode cL_holds 781 = .ok (.iconst 4, 1) := by decide +kernel
theorem dL_holds_782 : decode cL_holds 782 = .ok (.if_icmp .ge 144, 3) := by decide +kernel
theorem dL_holds_785 : decode cL_holds 785 = .ok (.iload 12, 2) := by decide +kernel
theorem dL_holds_787 : decode cL_holds 787 = .ok (.ifCond .eq 139, 3) := by decide +kernel
theorem dL_holds_790 : decode cL_holds 790 = .ok (.aload_n 0, 1) := by decide +kernel
theorem dL_holds_791 : decode cL_holds 791 = .ok (.iconst 5, 1) := by decide +kernel
theorem dL_holds_792 : decode cL_holds 792 = .ok (.iload 18, 2) := by decide +kernel
theorem dL_holds_794 : decode cL_holds 794 = .ok (.iconst 0, 1) := by decide +kernel
theorem dL_holds_795 : decode cL_holds 795 = .ok (.iconst 0, 1) := by decide +kernel
theorem dL_holds_796 : decode cL_holds 796 = .ok (.invokestatic 139, 3) := by decide +kernel
theorem dL_holds_799 : decode cL_holds 799 = .ok (.istore 19, 2) := by decide +kernel
theorem dL_holds_801 : decode cL_holds 801 = .ok (.aload_n 0, 1) := by decide +kernel
theorem dL_holds_802 : decode cL_holds 802 = .ok (.bipush 12, 2) := by decide +kernel
theorem dL_holds_804 : decode cL_holds 804 = .ok (.iload 18, 2) := by decide +kernel
theorem dL_holds_806 : decode cL_holds 806 = .ok (.iload 16, 2) := by decide +kernel
theorem dL_holds_808 : decode cL_holds 808 = .ok (.iconst 0, 1) := by decide +kernel
theorem dL_holds_809 : decode cL_holds 809 = .ok (.invokestatic 139, 3) := by decide +kernel
theorem dL_holds_812 : decode cL_holds 812 = .ok (.istore 20, 2) := by decide +kernel
theorem dL_holds_814 : decode cL_holds 814 = .ok (.iload 17, 2) := by decide +kernel
theorem dL_holds_816 : decode cL_holds 816 = .ok (.iload 19, 2) := by decide +kernel
theorem dL_holds_818 : decode cL_holds 818 = .ok (.iadd, 1) := by decide +kernel
theorem dL_holds_819 : decode cL_holds 819 = .ok (.istore 17, 2) := by decide +kernel
theorem dL_holds_821 : decode cL_holds 821 = .ok (.iload 20, 2) := by decide +kernel
theorem dL_holds_823 : decode cL_holds 823 = .ok (.ifCond .lt 94, 3) := by decide +kernel
theorem dL_holds_826 : decode cL_holds 826 = .ok (.iload 20, 2) := by decide +kernel
theorem dL_holds_828 : decode cL_holds 828 = .ok (.iload 16, 2) := by decide +kernel
theorem dL_holds_830 : decode cL_holds 830 = .ok (.if_icmp .gt 87, 3) := by decide +kernel
theorem dL_holds_833 : decode cL_holds 833 = .ok (.iload 20, 2) := by decide +kernel
theorem dL_holds_835 : decode cL_holds 835 = .ok (.iload 19, 2) := by decide +kernel
theorem dL_holds_837 : decode cL_holds 837 = .ok (.if_icmp .gt 80, 3) := by decide +kernel
theorem dL_holds_840 : decode cL_holds 840 = .ok (.iload 16, 2) := by decide +kernel
theorem dL_holds_842 : decode cL_holds 842 = .ok (.iconst 1, 1) := by decide +kernel
theorem dL_holds_843 : decode cL_holds 843 = .ok (.if_icmp .eq 35, 3) := by decide +kernel
theorem dL_holds_846 : decode cL_holds 846 = .ok (.aload_n 0, 1) := by decide +kernel
theorem dL_holds_847 : decode cL_holds 847 = .ok (.bipush 12, 2) := by decide +kernel
theorem dL_holds_849 : decode cL_holds 849 = .ok (.iload 18, 2) := by decide +kernel
theorem dL_holds_851 : decode cL_holds 851 = .ok (.iload 16, 2) := by decide +kernel
theorem dL_holds_853 : decode cL_holds 853 = .ok (.iconst 1, 1) := by decide +kernel
theorem dL_holds_854 : decode cL_holds 854 = .ok (.isub, 1) := by decide +kernel
theorem dL_holds_855 : decode cL_holds 855 = .ok (.iconst 0, 1) := by decide +kernel
theorem dL_holds_856 : decode cL_holds 856 = .ok (.invokestatic 139, 3) := by decide +kernel
theorem dL_holds_859 : decode cL_holds 859 = .ok (.iload 20, 2) := by decide +kernel
theorem dL_holds_861 : decode cL_holds 861 = .ok (.iload 16, 2) := by decide +kernel
theorem dL_holds_863 : decode cL_holds 863 = .ok (.if_icmp .ge 8, 3) := by decide +kernel
theorem dL_holds_866 : decode cL_holds 866 = .ok (.iload 20, 2) := by decide +kernel
theorem dL_holds_868 : decode cL_holds 868 = .ok (.goto 7, 3) := by decide +kernel
theorem dL_holds_871 : decode cL_holds 871 = .ok (.iload 16, 2) := by decide +kernel
theorem dL_holds_873 : decode cL_holds 873 = .ok (.iconst 1, 1) := by decide +kernel
theorem dL_holds_874 : decode cL_holds 874 = .ok (.isub, 1) := by decide +kernel
theorem dL_holds_875 : decode cL_holds 875 = .ok (.if_icmp .ne 42, 3) := by decide +kernel
theorem dL_holds_878 : decode cL_holds 878 = .ok (.iload 18, 2) := by decide +kernel
theorem dL_holds_880 : decode cL_holds 880 = .ok (.iload 6, 2) := by decide +kernel
theorem dL_holds_882 : decode cL_holds 882 = .ok (.if_icmp .ne 13, 3) := by decide +kernel
theorem dL_holds_885 : decode cL_holds 885 = .ok (.iload 10, 2) := by decide +kernel
theorem dL_holds_887 : decode cL_holds 887 = .ok (.ifCond .eq 8, 3) := by decide +kernel
theorem dL_holds_890 : decode cL_holds 890 = .ok (.iload 20, 2) := by decide +kernel
theorem dL_holds_892 : decode cL_holds 892 = .ok (.ifCond .le 25, 3) := by decide +kernel
theorem dL_holds_895 : decode cL_holds 895 = .ok (.iload 18, 2) := by decide +kernel
theorem dL_holds_897 : decode cL_holds 897 = .ok (.aload_n 0, 1) := by decide +kernel
theorem dL_holds_898 : decode cL_holds 898 = .ok (.iconst 2, 1) := by decide +kernel
theorem dL_holds_899 : decode cL_holds 899 = .ok (.iconst 2, 1) := by decide +kernel
theorem dL_holds_900 : decode cL_holds 900 = .ok (.iconst 0, 1) := by decide +kernel
theorem dL_holds_901 : decode cL_holds 901 = .ok (.iconst 0, 1) := by decide +kernel
theorem dL_holds_902 : decode cL_holds 902 = .ok (.invokestatic 139, 3) := by decide +kernel
theorem dL_holds_905 : decode cL_holds 905 = .ok (.if_icmp .lt 8, 3) := by decide +kernel
theorem dL_holds_908 : decode cL_holds 908 = .ok (.iload 19, 2) := by decide +kernel
theorem dL_holds_910 : decode cL_holds 910 = .ok (.ifCond .ne 7, 3) := by decide +kernel
theorem dL_holds_913 : decode cL_holds 913 = .ok (.iconst 1, 1) := by decide +kernel
theorem dL_holds_914 : decode cL_holds 914 = .ok (.goto 4, 3) := by decide +kernel
theorem dL_holds_917 : decode cL_holds 917 = .ok (.iconst 0, 1) := by decide +kernel
theorem dL_holds_918 : decode cL_holds 918 = .ok (.istore 12, 2) := by decide +kernel
theorem dL_holds_920 : decode cL_holds 920 = .ok (.iinc 18 1, 3) := by decide +kernel
theorem dL_holds_923 : decode cL_holds 923 = .ok (.goto (-144), 3) := by decide +kernel
theorem dL_holds_926 : decode cL_holds 926 = .ok (.iload 12, 2) := by decide +kernel
theorem dL_holds_928 : decode cL_holds 928 = .ok (.ifCond .eq 218, 3) := by decide +kernel
theorem dL_holds_931 : decode cL_holds 931 = .ok (.iload 7, 2) := by decide +kernel
theorem dL_holds_933 : decode cL_holds 933 = .ok (.iload 17, 2) := by decide +kernel
theorem dL_holds_935 : decode cL_holds 935 = .ok (.if_icmp .ne 211, 3) := by decide +kernel
theorem dL_holds_938 : decode cL_holds 938 = .ok (.iload 8, 2) := by decide +kernel
theorem dL_holds_940 : decode cL_holds 940 = .ok (.iload 4, 2) := by decide +kernel
theorem dL_holds_942 : decode cL_holds 942 = .ok (.if_icmp .ne 204, 3) := by decide +kernel
theorem dL_holds_945 : decode cL_holds 945 = .ok (.iload 9, 2) := by decide +kernel
theorem dL_holds_947 : decode cL_holds 947 = .ok (.iload 5, 2) := by decide +kernel
theorem dL_holds_949 : decode cL_holds 949 = .ok (.if_icmp .ne 197, 3) := by decide +kernel
theorem dL_holds_952 : decode cL_holds 952 = .ok (.iload 13, 2) := by decide +kernel
theorem dL_holds_954 : decode cL_holds 954 = .ok (.aload_n 0, 1) := by decide +kernel
theorem dL_holds_955 : decode cL_holds 955 = .ok (.iconst 2, 1) := by decide +kernel
theorem dL_holds_956 : decode cL_holds 956 = .ok (.bipush 9, 2) := by decide +kernel
theorem dL_holds_958 : decode cL_holds 958 = .ok (.iconst 0, 1) := by decide +kernel
theorem dL_holds_959 : decode cL_holds 959 = .ok (.iconst 0, 1) := by decide +kernel
theorem dL_holds_960 : decode cL_holds 960 = .ok (.invokestatic 139, 3) := by decide +kernel
theorem dL_holds_963 : decode cL_holds 963 = .ok (.if_icmp .ne 183, 3) := by decide +kernel
theorem dL_holds_966 : decode cL_holds 966 = .ok (.iload 14, 2) := by decide +kernel
theorem dL_holds_968 : decode cL_holds 968 = .ok (.aload_n 0, 1) := by decide +kernel
theorem dL_holds_969 : decode cL_holds 969 = .ok (.iconst 2, 1) := by decide +kernel
theorem dL_holds_970 : decode cL_holds 970 = .ok (.bipush 6, 2) := by decide +kernel
theorem dL_holds_972 : decode cL_holds 972 = .ok (.iconst 0, 1) := by decide +kernel
theorem dL_holds_973 : decode cL_holds 973 = .ok (.iconst 0, 1) := by decide +kernel
theorem dL_holds_974 : decode cL_holds 974 = .ok (.invokestatic 139, 3) := by decide +kernel
theorem dL_holds_977 : decode cL_holds 977 = .ok (.if_icmp .ne 169, 3) := by decide +kernel
theorem dL_holds_980 : decode cL_holds 980 = .ok (.iload 15, 2) := by decide +kernel
theorem dL_holds_982 : decode cL_holds 982 = .ok (.aload_n 0, 1) := by decide +kernel
theorem dL_holds_983 : decode cL_holds 983 = .ok (.bipush 13, 2) := by decide +kernel
theorem dL_holds_985 : decode cL_holds 985 = .ok (.iconst 4, 1) := by decide +kernel
theorem dL_holds_986 : decode cL_holds 986 = .ok (.iconst 0, 1) := by decide +kernel
theorem dL_holds_987 : decode cL_holds 987 = .ok (.iconst 0, 1) := by decide +kernel
theorem dL_holds_988 : decode cL_holds 988 = .ok (.invokestatic 139, 3) := by decide +kernel
theorem dL_holds_991 : decode cL_holds 991 = .ok (.aload_n 0, 1) := by decide +kernel
theorem dL_holds_992 : decode cL_holds 992 = .ok (.bipush 13, 2) := by decide +kernel
theorem dL_holds_994 : decode cL_holds 994 = .ok (.iconst 5, 1) := by decide +kernel
theorem dL_holds_995 : decode cL_holds 995 = .ok (.iconst 0, 1) := by decide +kernel
theorem dL_holds_996 : decode cL_holds 996 = .ok (.iconst 0, 1) := by decide +kernel
theorem dL_holds_997 : decode cL_holds 997 = .ok (.invokestatic 139, 3) := by decide +kernel
theorem dL_holds_1000 : decode cL_holds 1000 = .ok (.iadd, 1) := by decide +kernel
theorem dL_holds_1001 : decode cL_holds 1001 = .ok (.if_icmp .ne 145, 3) := by decide +kernel
theorem dL_holds_1004 : decode cL_holds 1004 = .ok (.aload_n 0, 1) := by decide +kernel
theorem dL_holds_1005 : decode cL_holds 1005 = .ok (.bipush 7, 2) := by decide +kernel
theorem dL_holds_1007 : decode cL_holds 1007 = .ok (.iconst 0, 1) := by decide +kernel
theorem dL_holds_1008 : decode cL_holds 1008 = .ok (.iconst 0, 1) := by decide +kernel
theorem dL_holds_1009 : decode cL_holds 1009 = .ok (.iconst 0, 1) := by decide +kernel
theorem dL_holds_1010 : decode cL_holds 1010 = .ok (.invokestatic 139, 3) := by decide +kernel
theorem dL_holds_1013 : decode cL_holds 1013 = .ok (.sipush 625, 3) := by decide +kernel
theorem dL_holds_1016 : decode cL_holds 1016 = .ok (.iconst 2, 1) := by decide +kernel
theorem dL_holds_1017 : decode cL_holds 1017 = .ok (.iload 4, 2) := by decide +kernel
theorem dL_holds_1019 : decode cL_holds 1019 = .ok (.imul, 1) := by decide +kernel
theorem dL_holds_1020 : decode cL_holds 1020 = .ok (.isub, 1) := by decide +kernel
theorem dL_holds_1021 : decode cL_holds 1021 = .ok (.if_icmp .ne 125, 3) := by decide +kernel
theorem dL_holds_1024 : decode cL_holds 1024 = .ok (.aload_n 0, 1) := by decide +kernel
theorem dL_holds_1025 : decode cL_holds 1025 = .ok (.bipush 7, 2) := by decide +kernel
theorem dL_holds_1027 : decode cL_holds 1027 = .ok (.iconst 1, 1) := by decide +kernel
theorem dL_holds_1028 : decode cL_holds 1028 = .ok (.iconst 0, 1) := by decide +kernel
theorem dL_holds_1029 : decode cL_holds 1029 = .ok (.iconst 0, 1) := by decide +kernel
theorem dL_holds_1030 : decode cL_holds 1030 = .ok (.invokestatic 139, 3) := by decide +kernel
theorem dL_holds_1033 : decode cL_holds 1033 = .ok (.sipush 625, 3) := by decide +kernel
theorem dL_holds_1036 : decode cL_holds 1036 = .ok (.iconst 2, 1) := by decide +kernel
theorem dL_holds_1037 : decode cL_holds 1037 = .ok (.iload 4, 2) := by decide +kernel
theorem dL_holds_1039 : decode cL_holds 1039 = .ok (.imul, 1) := by decide +kernel
theorem dL_holds_1040 : decode cL_holds 1040 = .ok (.isub, 1) := by decide +kernel
theorem dL_holds_1041 : decode cL_holds 1041 = .ok (.if_icmp .ne 105, 3) := by decide +kernel
theorem dL_holds_1044 : decode cL_holds 1044 = .ok (.iload 11, 2) := by decide +kernel
theorem dL_holds_1046 : decode cL_holds 1046 = .ok (.iconst (-1), 1) := by decide +kernel
theorem dL_holds_1047 : decode cL_holds 1047 = .ok (.if_icmp .ne 7, 3) := by decide +kernel
theorem dL_holds_1050 : decode cL_holds 1050 = .ok (.iconst 1, 1) := by decide +kernel
theorem dL_holds_1051 : decode cL_holds 1051 = .ok (.goto 4, 3) := by decide +kernel
theorem dL_holds_1054 : decode cL_holds 1054 = .ok (.iconst 0, 1) := by decide +kernel
theorem dL_holds_1055 : decode cL_holds 1055 = .ok (.iload 10, 2) := by decide +kernel
theorem dL_holds_1057 : decode cL_holds 1057 = .ok (.ifCond .ne 7, 3) := by decide +kernel
theorem dL_holds_1060 : decode cL_holds 1060 = .ok (.iconst 1, 1) := by decide +kernel
theorem dL_holds_1061 : decode cL_holds 1061 = .ok (.goto 4, 3) := by decide +kernel
theorem dL_holds_1064 : decode cL_holds 1064 = .ok (.iconst 0, 1) := by decide +kernel
theorem dL_holds_1065 : decode cL_holds 1065 = .ok (.if_icmp .ne 81, 3) := by decide +kernel
theorem dL_holds_1068 : decode cL_holds 1068 = .ok (.aload_n 0, 1) := by decide +kernel
theorem dL_holds_1069 : decode cL_holds 1069 = .ok (.bipush 13, 2) := by decide +kernel
theorem dL_holds_1071 : decode cL_holds 1071 = .ok (.iconst 0, 1) := by decide +kernel
theorem dL_holds_1072 : decode cL_holds 1072 = .ok (.iconst 0, 1) := by decide +kernel
theorem dL_holds_1073 : decode cL_holds 1073 = .ok (.iconst 0, 1) := by decide +kernel
theorem dL_holds_1074 : decode cL_holds 1074 = .ok (.invokestatic 139, 3) := by decide +kernel
theorem dL_holds_1077 : decode cL_holds 1077 = .ok (.iconst (-1), 1) := by decide +kernel
theorem dL_holds_1078 : decode cL_holds 1078 = .ok (.if_icmp .ne 7, 3) := by decide +kernel
theorem dL_holds_1081 : decode cL_holds 1081 = .ok (.iconst 1, 1) := by decide +kernel
theorem dL_holds_1082 : decode cL_holds 1082 = .ok (.goto 4, 3) := by decide +kernel
theorem dL_holds_1085 : decode cL_holds 1085 = .ok (.iconst 0, 1) := by decide +kernel
theorem dL_holds_1086 : decode cL_holds 1086 = .ok (.iload 4, 2) := by decide +kernel
theorem dL_holds_1088 : decode cL_holds 1088 = .ok (.ifCond .ne 7, 3) := by decide +kernel
theorem dL_holds_1091 : decode cL_holds 1091 = .ok (.iconst 1, 1) := by decide +kernel
theorem dL_holds_1092 : decode cL_holds 1092 = .ok (.goto 4, 3) := by decide +kernel
theorem dL_holds_1095 : decode cL_holds 1095 = .ok (.iconst 0, 1) := by decide +kernel
theorem dL_holds_1096 : decode cL_holds 1096 = .ok (.if_icmp .ne 50, 3) := by decide +kernel
theorem dL_holds_1099 : decode cL_holds 1099 = .ok (.iload_n 3, 1) := by decide +kernel
theorem dL_holds_1100 : decode cL_holds 1100 = .ok (.iconst 2, 1) := by decide +kernel
theorem dL_holds_1101 : decode cL_holds 1101 = .ok (.if_icmp .ne 41, 3) := by decide +kernel
theorem dL_holds_1104 : decode cL_holds 1104 = .ok (.aload_n 0, 1) := by decide +kernel
theorem dL_holds_1105 : decode cL_holds 1105 = .ok (.iconst 5, 1) := by decide +kernel
theorem dL_holds_1106 : decode cL_holds 1106 = .ok (.iconst 0, 1) := by decide +kernel
theorem dL_holds_1107 : decode cL_holds 1107 = .ok (.iconst 3, 1) := by decide +kernel
theorem dL_holds_1108 : decode cL_holds 1108 = .ok (.iconst 0, 1) := by decide +kernel
theorem dL_holds_1109 : decode cL_holds 1109 = .ok (.invokestatic 139, 3) := by decide +kernel
theorem dL_holds_1112 : decode cL_holds 1112 = .ok (.aload_n 0, 1) := by decide +kernel
theorem dL_holds_1113 : decode cL_holds 1113 = .ok (.iconst 5, 1) := by decide +kernel
theorem dL_holds_1114 : decode cL_holds 1114 = .ok (.iconst 1, 1) := by decide +kernel
theorem dL_holds_1115 : decode cL_holds 1115 = .ok (.iconst 3, 1) := by decide +kernel
theorem dL_holds_1116 : decode cL_holds 1116 = .ok (.iconst 0, 1) := by decide +kernel
theorem dL_holds_1117 : decode cL_holds 1117 = .ok (.invokestatic 139, 3) := by decide +kernel
theorem dL_holds_1120 : decode cL_holds 1120 = .ok (.iadd, 1) := by decide +kernel
theorem dL_holds_1121 : decode cL_holds 1121 = .ok (.aload_n 0, 1) := by decide +kernel
theorem dL_holds_1122 : decode cL_holds 1122 = .ok (.iconst 5, 1) := by decide +kernel
theorem dL_holds_1123 : decode cL_holds 1123 = .ok (.iconst 2, 1) := by decide +kernel
theorem dL_holds_1124 : decode cL_holds 1124 = .ok (.iconst 3, 1) := by decide +kernel
theorem dL_holds_1125 : decode cL_holds 1125 = .ok (.iconst 0, 1) := by decide +kernel
theorem dL_holds_1126 : decode cL_holds 1126 = .ok (.invokestatic 139, 3) := by decide +kernel
theorem dL_holds_1129 : decode cL_holds 1129 = .ok (.iadd, 1) := by decide +kernel
theorem dL_holds_1130 : decode cL_holds 1130 = .ok (.aload_n 0, 1) := by decide +kernel
theorem dL_holds_1131 : decode cL_holds 1131 = .ok (.iconst 5, 1) := by decide +kernel
theorem dL_holds_1132 : decode cL_holds 1132 = .ok (.iconst 3, 1) := by decide +kernel
theorem dL_holds_1133 : decode cL_holds 1133 = .ok (.iconst 3, 1) := by decide +kernel
theorem dL_holds_1134 : decode cL_holds 1134 = .ok (.iconst 0, 1) := by decide +kernel
theorem dL_holds_1135 : decode cL_holds 1135 = .ok (.invokestatic 139, 3) := by decide +kernel
theorem dL_holds_1138 : decode cL_holds 1138 = .ok (.iadd, 1) := by decide +kernel
theorem dL_holds_1139 : decode cL_holds 1139 = .ok (.ifCond .le 7, 3) := by decide +kernel
theorem dL_holds_1142 : decode cL_holds 1142 = .ok (.iconst 1, 1) := by decide +kernel
theorem dL_holds_1143 : decode cL_holds 1143 = .ok (.goto 4, 3) := by decide +kernel
theorem dL_holds_1146 : decode cL_holds 1146 = .ok (.iconst 0, 1) := by decide +kernel
theorem dL_holds_1147 : decode cL_holds 1147 = .ok (.ireturn, 1) := by decide +kernel
theorem dL_next_0 : decode cL_next 0 = .ok (.aload_n 0, 1) := by decide +kernel
theorem dL_next_1 : decode cL_next 1 = .ok (.iconst 4, 1) := by decide +kernel
theorem dL_next_2 : decode cL_next 2 = .ok (.iload_n 1, 1) := by decide +kernel
theorem dL_next_3 : decode cL_next 3 = .ok (.iconst 3, 1) := by decide +kernel
theorem dL_next_4 : decode cL_next 4 = .ok (.iconst 0, 1) := by decide +kernel
theorem dL_next_5 : decode cL_next 5 = .ok (.invokestatic 139, 3) := by decide +kernel
theorem dL_next_8 : decode cL_next 8 = .ok (.istore 6, 2) := by decide +kernel
theorem dL_next_10 : decode cL_next 10 = .ok (.iload_n 2, 1) := by decide +kernel
theorem dL_next_11 : decode cL_next 11 = .ok (.iload 6, 2) := by decide +kernel
theorem dL_next_13 : decode cL_next 13 = .ok (.ifCond .ne 7, 3) := by decide +kernel
theorem dL_next_16 : decode cL_next 16 = .ok (.iconst 1, 1) := by decide +kernel
theorem dL_next_17 : decode cL_next 17 = .ok (.goto 14, 3) := by decide +kernel
theorem dL_next_20 : decode cL_next 20 = .ok (.iload 6, 2) := by decide +kernel
theorem dL_next_22 : decode cL_next 22 = .ok (.iconst 2, 1) := by decide +kernel
theorem dL_next_23 : decode cL_next 23 = .ok (.if_icmp .ne 7, 3) := by decide +kernel
theorem dL_next_26 : decode cL_next 26 = .ok (.iconst (-1), 1) := by decide +kernel
theorem dL_next_27 : decode cL_next 27 = .ok (.goto 4, 3) := by decide +kernel
theorem dL_next_30 : decode cL_next 30 = .ok (.iconst 0, 1) := by decide +kernel
theorem dL_next_31 : decode cL_next 31 = .ok (.iadd, 1) := by decide +kernel
theorem dL_next_32 : decode cL_next 32 = .ok (.istore 7, 2) := by decide +kernel
theorem dL_next_34 : decode cL_next 34 = .ok (.iload_n 3, 1) := by decide +kernel
theorem dL_next_35 : decode cL_next 35 = .ok (.iload 6, 2) := by decide +kernel
theorem dL_next_37 : decode cL_next 37 = .ok (.iconst 1, 1) := by decide +kernel
theorem dL_next_38 : decode cL_next 38 = .ok (.if_icmp .ne 7, 3) := by decide +kernel
theorem dL_next_41 : decode cL_next 41 = .ok (.iconst 1, 1) := by decide +kernel
theorem dL_next_42 : decode cL_next 42 = .ok (.goto 14, 3) := by decide +kernel
theorem dL_next_45 : decode cL_next 45 = .ok (.iload 6, 2) := by decide +kernel
theorem dL_next_47 : decode cL_next 47 = .ok (.iconst 3, 1) := by decide +kernel
theorem dL_next_48 : decode cL_next 48 = .ok (.if_icmp .ne 7, 3) := by decide +kernel
theorem dL_next_51 : decode cL_next 51 = .ok (.iconst (-1), 1) := by decide +kernel
theorem dL_next_52 : decode cL_next 52 = .ok (.goto 4, 3) := by decide +kernel
theorem dL_next_55 : decode cL_next 55 = .ok (.iconst 0, 1) := by decide +kernel
theorem dL_next_56 : decode cL_next 56 = .ok (.iadd, 1) := by decide +kernel
theorem dL_next_57 : decode cL_next 57 = .ok (.istore 8, 2) := by decide +kernel
theorem dL_next_59 : decode cL_next 59 = .ok (.iload 5, 2) := by decide +kernel
theorem dL_next_61 : decode cL_next 61 = .ok (.ifCond .eq 19, 3) := by decide +kernel
theorem dL_next_64 : decode cL_next 64 = .ok (.iload 6, 2) := by decide +kernel
theorem dL_next_66 : decode cL_next 66 = .ok (.iload 4, 2) := by decide +kernel
theorem dL_next_68 : decode cL_next 68 = .ok (.isub, 1) := by decide +kernel
theorem dL_next_69 : decode cL_next 69 = .ok (.iconst 4, 1) := by decide +kernel
theorem dL_next_70 : decode cL_next 70 = .ok (.iadd, 1) := by decide +kernel
theorem dL_next_71 : decode cL_next 71 = .ok (.iconst 2, 1) := by decide +kernel
theorem dL_next_72 : decode cL_next 72 = .ok (.irem, 1) := by decide +kernel
theorem dL_next_73 : decode cL_next 73 = .ok (.iconst 1, 1) := by decide +kernel
theorem dL_next_74 : decode cL_next 74 = .ok (.if_icmp .ne 43, 3) := by decide +kernel
theorem dL_next_77 : decode cL_next 77 = .ok (.goto 10, 3) := by decide +kernel
theorem dL_next_80 : decode cL_next 80 = .ok (.iload 6, 2) := by decide +kernel
theorem dL_next_82 : decode cL_next 82 = .ok (.iload 4, 2) := by decide +kernel
theorem dL_next_84 : decode cL_next 84 = .ok (.if_icmp .ne 33, 3) := by decide +kernel
theorem dL_next_87 : decode cL_next 87 = .ok (.aload_n 0, 1) := by decide +kernel
theorem dL_next_88 : decode cL_next 88 = .ok (.iconst 4, 1) := by decide +kernel
theorem dL_next_89 : decode cL_next 89 = .ok (.iload_n 1, 1) := by decide +kernel
theorem dL_next_90 : decode cL_next 90 = .ok (.iconst 1, 1) := by decide +kernel
theorem dL_next_91 : decode cL_next 91 = .ok (.iconst 0, 1) := by decide +kernel
theorem dL_next_92 : decode cL_next 92 = .ok (.invokestatic 139, 3) := by decide +kernel
theorem dL_next_95 : decode cL_next 95 = .ok (.iload 7, 2) := by decide +kernel
theorem dL_next_97 : decode cL_next 97 = .ok (.if_icmp .ne 20, 3) := by decide +kernel
theorem dL_next_100 : decode cL_next 100 = .ok (.aload_n 0, 1) := by decide +kernel
theorem dL_next_101 : decode cL_next 101 = .ok (.iconst 4, 1) := by decide +kernel
theorem dL_next_102 : decode cL_next 102 = .ok (.iload_n 1, 1) := by decide +kernel
theorem dL_next_103 : decode cL_next 103 = .ok (.iconst 2, 1) := by decide +kernel
theorem dL_next_104 : decode cL_next 104 = .ok (.iconst 0, 1) := by decide +kernel
theorem dL_next_105 : decode cL_next 105 = .ok (.invokestatic 139, 3) := by decide +kernel
theorem dL_next_108 : decode cL_next 108 = .ok (.iload 8, 2) := by decide +kernel
theorem dL_next_110 : decode cL_next 110 = .ok (.if_icmp .ne 7, 3) := by decide +kernel
theorem dL_next_113 : decode cL_next 113 = .ok (.iconst 1, 1) := by decide +kernel
theorem dL_next_114 : decode cL_next 114 = .ok (.goto 4, 3) := by decide +kernel
theorem dL_next_117 : decode cL_next 117 = .ok (.iconst 0, 1) := by decide +kernel
theorem dL_next_118 : decode cL_next 118 = .ok (.ireturn, 1) := by decide +kernel
theorem dL_act_0 : decode cL_act 0 = .ok (.iload_n 1, 1) := by decide +kernel
theorem dL_act_1 : decode cL_act 1 = .ok (.bipush 16, 2) := by decide +kernel
theorem dL_act_3 : decode cL_act 3 = .ok (.idiv, 1) := by decide +kernel
theorem dL_act_4 : decode cL_act 4 = .ok (.istore_n 2, 1) := by decide +kernel
theorem dL_act_5 : decode cL_act 5 = .ok (.aload_n 0, 1) := by decide +kernel
theorem dL_act_6 : decode cL_act 6 = .ok (.iconst 2, 1) := by decide +kernel
theorem dL_act_7 : decode cL_act 7 = .ok (.iconst 1, 1) := by decide +kernel
theorem dL_act_8 : decode cL_act 8 = .ok (.iconst 0, 1) := by decide +kernel
theorem dL_act_9 : decode cL_act 9 = .ok (.iconst 0, 1) := by decide +kernel
theorem dL_act_10 : decode cL_act 10 = .ok (.invokestatic 139, 3) := by decide +kernel
theorem dL_act_13 : decode cL_act 13 = .ok (.istore_n 3, 1) := by decide +kernel
theorem dL_act_14 : decode cL_act 14 = .ok (.iload_n 1, 1) := by decide +kernel
theorem dL_act_15 : decode cL_act 15 = .ok (.bipush 32, 2) := by decide +kernel
theorem dL_act_17 : decode cL_act 17 = .ok (.irem, 1) := by decide +kernel
theorem dL_act_18 : decode cL_act 18 = .ok (.bipush 31, 2) := by decide +kernel
theorem dL_act_20 : decode cL_act 20 = .ok (.if_icmp .ne 15, 3) := by decide +kernel
theorem dL_act_23 : decode cL_act 23 = .ok (.aload_n 0, 1) := by decide +kernel
theorem dL_act_24 : decode cL_act 24 = .ok (.bipush 14, 2) := by decide +kernel
theorem dL_act_26 : decode cL_act 26 = .ok (.iload_n 2, 1) := by decide +kernel
theorem dL_act_27 : decode cL_act 27 = .ok (.iconst 2, 1) := by decide +kernel
theorem dL_act_28 : decode cL_act 28 = .ok (.irem, 1) := by decide +kernel
theorem dL_act_29 : decode cL_act 29 = .ok (.iconst 0, 1) := by decide +kernel
theorem dL_act_30 : decode cL_act 30 = .ok (.iconst 0, 1) := by decide +kernel
theorem dL_act_31 : decode cL_act 31 = .ok (.invokestatic 139, 3) := by decide +kernel
theorem dL_act_34 : decode cL_act 34 = .ok (.ireturn, 1) := by decide +kernel
theorem dL_act_35 : decode cL_act 35 = .ok (.iload_n 1, 1) := by decide +kernel
theorem dL_act_36 : decode cL_act 36 = .ok (.bipush 32, 2) := by decide +kernel
theorem dL_act_38 : decode cL_act 38 = .ok (.irem, 1) := by decide +kernel
theorem dL_act_39 : decode cL_act 39 = .ok (.bipush 30, 2) := by decide +kernel
theorem dL_act_41 : decode cL_act 41 = .ok (.if_icmp .ne 15, 3) := by decide +kernel
theorem dL_act_44 : decode cL_act 44 = .ok (.aload_n 0, 1) := by decide +kernel
theorem dL_act_45 : decode cL_act 45 = .ok (.bipush 15, 2) := by decide +kernel
theorem dL_act_47 : decode cL_act 47 = .ok (.iload_n 2, 1) := by decide +kernel
theorem dL_act_48 : decode cL_act 48 = .ok (.iconst 2, 1) := by decide +kernel
theorem dL_act_49 : decode cL_act 49 = .ok (.irem, 1) := by decide +kernel
theorem dL_act_50 : decode cL_act 50 = .ok (.iconst 0, 1) := by decide +kernel
theorem dL_act_51 : decode cL_act 51 = .ok (.iconst 0, 1) := by decide +kernel
theorem dL_act_52 : decode cL_act 52 = .ok (.invokestatic 139, 3) := by decide +kernel
theorem dL_act_55 : decode cL_act 55 = .ok (.ireturn, 1) := by decide +kernel
theorem dL_act_56 : decode cL_act 56 = .ok (.iload_n 3, 1) := by decide +kernel
theorem dL_act_57 : decode cL_act 57 = .ok (.iconst 1, 1) := by decide +kernel
theorem dL_act_58 : decode cL_act 58 = .ok (.if_icmp .ne 12, 3) := by decide +kernel
theorem dL_act_61 : decode cL_act 61 = .ok (.iload_n 1, 1) := by decide +kernel
theorem dL_act_62 : decode cL_act 62 = .ok (.bipush 64, 2) := by decide +kernel
theorem dL_act_64 : decode cL_act 64 = .ok (.irem, 1) := by decide +kernel
theorem dL_act_65 : decode cL_act 65 = .ok (.bipush 61, 2) := by decide +kernel
theorem dL_act_67 : decode cL_act 67 = .ok (.if_icmp .ne 19, 3) := by decide +kernel
theorem dL_act_70 : decode cL_act 70 = .ok (.aload_n 0, 1) := by decide +kernel
theorem dL_act_71 : decode cL_act 71 = .ok (.iconst 2, 1) := by decide +kernel
theorem dL_act_72 : decode cL_act 72 = .ok (.iload_n 2, 1) := by decide +kernel
theorem dL_act_73 : decode cL_act 73 = .ok (.iconst 3, 1) := by decide +kernel
theorem dL_act_74 : decode cL_act 74 = .ok (.irem, 1) := by decide +kernel
theorem dL_act_75 : decode cL_act 75 = .ok (.iadd, 1) := by decide +kernel
theorem dL_act_76 : decode cL_act 76 = .ok (.iload_n 2, 1) := by decide +kernel
theorem dL_act_77 : decode cL_act 77 = .ok (.i2l, 1) := by decide +kernel
theorem dL_act_78 : decode cL_act 78 = .ok (.ldc2_w 170, 3) := by decide +kernel
theorem dL_act_81 : decode cL_act 81 = .ok (.lmul, 1) := by decide +kernel
theorem dL_act_82 : decode cL_act 82 = .ok (.invokestatic 143, 3) := by decide +kernel
theorem dL_act_85 : decode cL_act 85 = .ok (.ireturn, 1) := by decide +kernel
theorem dL_act_86 : decode cL_act 86 = .ok (.iload_n 1, 1) := by decide +kernel
theorem dL_act_87 : decode cL_act 87 = .ok (.bipush 32, 2) := by decide +kernel
theorem dL_act_89 : decode cL_act 89 = .ok (.irem, 1) := by decide +kernel
theorem dL_act_90 : decode cL_act 90 = .ok (.bipush 28, 2) := by decide +kernel
theorem dL_act_92 : decode cL_act 92 = .ok (.if_icmp .ne 13, 3) := by decide +kernel
theorem dL_act_95 : decode cL_act 95 = .ok (.aload_n 0, 1) := by decide +kernel
theorem dL_act_96 : decode cL_act 96 = .ok (.bipush 10, 2) := by decide +kernel
theorem dL_act_98 : decode cL_act 98 = .ok (.iconst 0, 1) := by decide +kernel
theorem dL_act_99 : decode cL_act 99 = .ok (.iconst 0, 1) := by decide +kernel
theorem dL_act_100 : decode cL_act 100 = .ok (.iconst 0, 1) := by decide +kernel
theorem dL_act_101 : decode cL_act 101 = .ok (.invokestatic 139, 3) := by decide +kernel
theorem dL_act_104 : decode cL_act 104 = .ok (.ireturn, 1) := by decide +kernel
theorem dL_act_105 : decode cL_act 105 = .ok (.iload_n 1, 1) := by decide +kernel
theorem dL_act_106 : decode cL_act 106 = .ok (.bipush 32, 2) := by decide +kernel
theorem dL_act_108 : decode cL_act 108 = .ok (.irem, 1) := by decide +kernel
theorem dL_act_109 : decode cL_act 109 = .ok (.bipush 27, 2) := by decide +kernel
theorem dL_act_111 : decode cL_act 111 = .ok (.if_icmp .ne 26, 3) := by decide +kernel
theorem dL_act_114 : decode cL_act 114 = .ok (.aload_n 0, 1) := by decide +kernel
theorem dL_act_115 : decode cL_act 115 = .ok (.iload_n 2, 1) := by decide +kernel
theorem dL_act_116 : decode cL_act 116 = .ok (.bipush 28, 2) := by decide +kernel
theorem dL_act_118 : decode cL_act 118 = .ok (.irem, 1) := by decide +kernel
theorem dL_act_119 : decode cL_act 119 = .ok (.iload_n 2, 1) := by decide +kernel
theorem dL_act_120 : decode cL_act 120 = .ok (.bipush 28, 2) := by decide +kernel
theorem dL_act_122 : decode cL_act 122 = .ok (.idiv, 1) := by decide +kernel
theorem dL_act_123 : decode cL_act 123 = .ok (.iconst 2, 1) := by decide +kernel
theorem dL_act_124 : decode cL_act 124 = .ok (.irem, 1) := by decide +kernel
theorem dL_act_125 : decode cL_act 125 = .ok (.ifCond .ne 7, 3) := by decide +kernel
theorem dL_act_128 : decode cL_act 128 = .ok (.iconst 1, 1) := by decide +kernel
theorem dL_act_129 : decode cL_act 129 = .ok (.goto 4, 3) := by decide +kernel
theorem dL_act_132 : decode cL_act 132 = .ok (.iconst 0, 1) := by decide +kernel
theorem dL_act_133 : decode cL_act 133 = .ok (.invokestatic 147, 3) := by decide +kernel
theorem dL_act_136 : decode cL_act 136 = .ok (.ireturn, 1) := by decide +kernel
theorem dL_act_137 : decode cL_act 137 = .ok (.iload_n 1, 1) := by decide +kernel
theorem dL_act_138 : decode cL_act 138 = .ok (.bipush 32, 2) := by decide +kernel
theorem dL_act_140 : decode cL_act 140 = .ok (.irem, 1) := by decide +kernel
theorem dL_act_141 : decode cL_act 141 = .ok (.bipush 26, 2) := by decide +kernel
theorem dL_act_143 : decode cL_act 143 = .ok (.if_icmp .ne 36, 3) := by decide +kernel
theorem dL_act_146 : decode cL_act 146 = .ok (.aload_n 0, 1) := by decide +kernel
theorem dL_act_147 : decode cL_act 147 = .ok (.iconst 2, 1) := by decide +kernel
theorem dL_act_148 : decode cL_act 148 = .ok (.iconst 4, 1) := by decide +kernel
theorem dL_act_149 : decode cL_act 149 = .ok (.iconst 0, 1) := by decide +kernel
theorem dL_act_150 : decode cL_act 150 = .ok (.iconst 0, 1) := by decide +kernel
theorem dL_act_151 : decode cL_act 151 = .ok (.invokestatic 139, 3) := by decide +kernel
theorem dL_act_154 : decode cL_act 154 = .ok (.ifCond .le 15, 3) := by decide +kernel
theorem dL_act_157 : decode cL_act 157 = .ok (.aload_n 0, 1) := by decide +kernel
theorem dL_act_158 : decode cL_act 158 = .ok (.bipush 8, 2) := by decide +kernel
theorem dL_act_160 : decode cL_act 160 = .ok (.iconst 0, 1) := by decide +kernel
theorem dL_act_161 : decode cL_act 161 = .ok (.iconst 0, 1) := by decide +kernel
theorem dL_act_162 : decode cL_act 162 = .ok (.iconst 0, 1) := by decide +kernel
theorem dL_act_163 : decode cL_act 163 = .ok (.invokestatic 139, 3) := by decide +kernel
theorem dL_act_166 : decode cL_act 166 = .ok (.goto 12, 3) := by decide +kernel
theorem dL_act_169 : decode cL_act 169 = .ok (.aload_n 0, 1) := by decide +kernel
theorem dL_act_170 : decode cL_act 170 = .ok (.bipush 9, 2) := by decide +kernel
theorem dL_act_172 : decode cL_act 172 = .ok (.iconst 0, 1) := by decide +kernel
theorem dL_act_173 : decode cL_act 173 = .ok (.iconst 0, 1) := by decide +kernel
theorem dL_act_174 : decode cL_act 174 = .ok (.iconst 0, 1) := by decide +kernel
theorem dL_act_175 : decode cL_act 175 = .ok (.invokestatic 139, 3) := by decide +kernel
theorem dL_act_178 : decode cL_act 178 = .ok (.ireturn, 1) := by decide +kernel
theorem dL_act_179 : decode cL_act 179 = .ok (.iconst 0, 1) := by decide +kernel
theorem dL_act_180 : decode cL_act 180 = .ok (.istore 4, 2) := by decide +kernel
theorem dL_act_182 : decode cL_act 182 = .ok (.iconst 1, 1) := by decide +kernel
theorem dL_act_183 : decode cL_act 183 = .ok (.iload_n 2, 1) := by decide +kernel
theorem dL_act_184 : decode cL_act 184 = .ok (.iconst 5, 1) := by decide +kernel
theorem dL_act_185 : decode cL_act 185 = .ok (.irem, 1) := by decide +kernel
theorem dL_act_186 : decode cL_act 186 = .ok (.iadd, 1) := by decide +kernel
theorem dL_act_187 : decode cL_act 187 = .ok (.istore 5, 2) := by decide +kernel
theorem dL_act_189 : decode cL_act 189 = .ok (.iconst 0, 1) := by decide +kernel
theorem dL_act_190 : decode cL_act 190 = .ok (.istore 6, 2) := by decide +kernel
theorem dL_act_192 : decode cL_act 192 = .ok (.iload 6, 2) := by decide +kernel
theorem dL_act_194 : decode cL_act 194 = .ok (.iload 5, 2) := by decide +kernel
theorem dL_act_196 : decode cL_act 196 = .ok (.if_icmp .ge 103, 3) := by decide +kernel
theorem dL_act_199 : decode cL_act 199 = .ok (.aload_n 0, 1) := by decide +kernel
theorem dL_act_200 : decode cL_act 200 = .ok (.invokevirtual 163, 3) := by decide +kernel
theorem dL_act_203 : decode cL_act 203 = .ok (.istore 7, 2) := by decide +kernel
theorem dL_act_205 : decode cL_act 205 = .ok (.iconst 3, 1) := by decide +kernel
theorem dL_act_206 : decode cL_act 206 = .ok (.iload 4, 2) := by decide +kernel
theorem dL_act_208 : decode cL_act 208 = .ok (.imul, 1) := by decide +kernel
theorem dL_act_209 : decode cL_act 209 = .ok (.iload 7, 2) := by decide +kernel
theorem dL_act_211 : decode cL_act 211 = .ok (.iconst (-1), 1) := by decide +kernel
theorem dL_act_212 : decode cL_act 212 = .ok (.if_icmp .eq 29, 3) := by decide +kernel
theorem dL_act_215 : decode cL_act 215 = .ok (.aload_n 0, 1) := by decide +kernel
theorem dL_act_216 : decode cL_act 216 = .ok (.iload 7, 2) := by decide +kernel
theorem dL_act_218 : decode cL_act 218 = .ok (.iload_n 2, 1) := by decide +kernel
theorem dL_act_219 : decode cL_act 219 = .ok (.iload 6, 2) := by decide +kernel
theorem dL_act_221 : decode cL_act 221 = .ok (.iconst 3, 1) := by decide +kernel
theorem dL_act_222 : decode cL_act 222 = .ok (.iadd, 1) := by decide +kernel
theorem dL_act_223 : decode cL_act 223 = .ok (.ishr, 1) := by decide +kernel
theorem dL_act_224 : decode cL_act 224 = .ok (.iconst 1, 1) := by decide +kernel
theorem dL_act_225 : decode cL_act 225 = .ok (.iand, 1) := by decide +kernel
theorem dL_act_226 : decode cL_act 226 = .ok (.iconst 1, 1) := by decide +kernel
theorem dL_act_227 : decode cL_act 227 = .ok (.if_icmp .ne 7, 3) := by decide +kernel
theorem dL_act_230 : decode cL_act 230 = .ok (.iconst 1, 1) := by decide +kernel
theorem dL_act_231 : decode cL_act 231 = .ok (.goto 4, 3) := by decide +kernel
theorem dL_act_234 : decode cL_act 234 = .ok (.iconst 0, 1) := by decide +kernel
theorem dL_act_235 : decode cL_act 235 = .ok (.invokestatic 147, 3) := by decide +kernel
theorem dL_act_238 : decode cL_act 238 = .ok (.goto 52, 3) := by decide +kernel
theorem dL_act_241 : decode cL_act 241 = .ok (.aload_n 0, 1) := by decide +kernel
theorem dL_act_242 : decode cL_act 242 = .ok (.iconst 2, 1) := by decide +kernel
theorem dL_act_243 : decode cL_act 243 = .ok (.iconst 1, 1) := by decide +kernel
theorem dL_act_244 : decode cL_act 244 = .ok (.iconst 0, 1) := by decide +kernel
theorem dL_act_245 : decode cL_act 245 = .ok (.iconst 0, 1) := by decide +kernel
theorem dL_act_246 : decode cL_act 246 = .ok (.invokestatic 139, 3) := by decide +kernel
theorem dL_act_249 : decode cL_act 249 = .ok (.iconst 1, 1) := by decide +kernel
theorem dL_act_250 : decode cL_act 250 = .ok (.if_icmp .eq 8, 3) := by decide +kernel
theorem dL_act_253 : decode cL_act 253 = .ok (.bipush 7, 2) := by decide +kernel
theorem dL_act_255 : decode cL_act 255 = .ok (.goto 35, 3) := by decide +kernel
theorem dL_act_258 : decode cL_act 258 = .ok (.aload_n 0, 1) := by decide +kernel
theorem dL_act_259 : decode cL_act 259 = .ok (.iconst 2, 1) := by decide +kernel
theorem dL_act_260 : decode cL_act 260 = .ok (.iconst 4, 1) := by decide +kernel
theorem dL_act_261 : decode cL_act 261 = .ok (.iconst 0, 1) := by decide +kernel
theorem dL_act_262 : decode cL_act 262 = .ok (.iconst 0, 1) := by decide +kernel
theorem dL_act_263 : decode cL_act 263 = .ok (.invokestatic 139, 3) := by decide +kernel
theorem dL_act_266 : decode cL_act 266 = .ok (.ifCond .le 15, 3) := by decide +kernel
theorem dL_act_269 : decode cL_act 269 = .ok (.aload_n 0, 1) := by decide +kernel
theorem dL_act_270 : decode cL_act 270 = .ok (.bipush 8, 2) := by decide +kernel
theorem dL_act_272 : decode cL_act 272 = .ok (.iconst 0, 1) := by decide +kernel
theorem dL_act_273 : decode cL_act 273 = .ok (.iconst 0, 1) := by decide +kernel
theorem dL_act_274 : decode cL_act 274 = .ok (.iconst 0, 1) := by decide +kernel
theorem dL_act_275 : decode cL_act 275 = .ok (.invokestatic 139, 3) := by decide +kernel
theorem dL_act_278 : decode cL_act 278 = .ok (.goto 12, 3) := by decide +kernel
theorem dL_act_281 : decode cL_act 281 = .ok (.aload_n 0, 1) := by decide +kernel
theorem dL_act_282 : decode cL_act 282 = .ok (.bipush 9, 2) := by decide +kernel
theorem dL_act_284 : decode cL_act 284 = .ok (.iconst 0, 1) := by decide +kernel
theorem dL_act_285 : decode cL_act 285 = .ok (.iconst 0, 1) := by decide +kernel
theorem dL_act_286 : decode cL_act 286 = .ok (.iconst 0, 1) := by decide +kernel
theorem dL_act_287 : decode cL_act 287 = .ok (.invokestatic 139, 3) := by decide +kernel
theorem dL_act_290 : decode cL_act 290 = .ok (.iadd, 1) := by decide +kernel
theorem dL_act_291 : decode cL_act 291 = .ok (.istore 4, 2) := by decide +kernel
theorem dL_act_293 : decode cL_act 293 = .ok (.iinc 6 1, 3) := by decide +kernel
theorem dL_act_296 : decode cL_act 296 = .ok (.goto (-104), 3) := by decide +kernel
theorem dL_act_299 : decode cL_act 299 = .ok (.iload 4, 2) := by decide +kernel
theorem dL_act_301 : decode cL_act 301 = .ok (.ireturn, 1) := by decide +kernel
theorem dL_alike_0 : decode cL_alike 0 = .ok (.aload_n 0, 1) := by decide +kernel
theorem dL_alike_1 : decode cL_alike 1 = .ok (.iload_n 2, 1) := by decide +kernel
theorem dL_alike_2 : decode cL_alike 2 = .ok (.i2l, 1) := by decide +kernel
theorem dL_alike_3 : decode cL_alike 3 = .ok (.iconst 1, 1) := by decide +kernel
theorem dL_alike_4 : decode cL_alike 4 = .ok (.iload_n 2, 1) := by decide +kernel
theorem dL_alike_5 : decode cL_alike 5 = .ok (.bipush 90, 2) := by decide +kernel
theorem dL_alike_7 : decode cL_alike 7 = .ok (.irem, 1) := by decide +kernel
theorem dL_alike_8 : decode cL_alike 8 = .ok (.iadd, 1) := by decide +kernel
theorem dL_alike_9 : decode cL_alike 9 = .ok (.invokestatic 156, 3) := by decide +kernel
theorem dL_alike_12 : decode cL_alike 12 = .ok (.aload_n 1, 1) := by decide +kernel
theorem dL_alike_13 : decode cL_alike 13 = .ok (.iload_n 2, 1) := by decide +kernel
theorem dL_alike_14 : decode cL_alike 14 = .ok (.i2l, 1) := by decide +kernel
theorem dL_alike_15 : decode cL_alike 15 = .ok (.iconst 1, 1) := by decide +kernel
theorem dL_alike_16 : decode cL_alike 16 = .ok (.iload_n 2, 1) := by decide +kernel
theorem dL_alike_17 : decode cL_alike 17 = .ok (.bipush 90, 2) := by decide +kernel
theorem dL_alike_19 : decode cL_alike 19 = .ok (.irem, 1) := by decide +kernel
theorem dL_alike_20 : decode cL_alike 20 = .ok (.iadd, 1) := by decide +kernel
theorem dL_alike_21 : decode cL_alike 21 = .ok (.invokestatic 156, 3) := by decide +kernel
theorem dL_alike_24 : decode cL_alike 24 = .ok (.if_icmp .ne 29, 3) := by decide +kernel
theorem dL_alike_27 : decode cL_alike 27 = .ok (.aload_n 0, 1) := by decide +kernel
theorem dL_alike_28 : decode cL_alike 28 = .ok (.invokevirtual 160, 3) := by decide +kernel
theorem dL_alike_31 : decode cL_alike 31 = .ok (.aload_n 1, 1) := by decide +kernel
theorem dL_alike_32 : decode cL_alike 32 = .ok (.invokevirtual 160, 3) := by decide +kernel
theorem dL_alike_35 : decode cL_alike 35 = .ok (.if_icmp .ne 18, 3) := by decide +kernel
theorem dL_alike_38 : decode cL_alike 38 = .ok (.aload_n 0, 1) := by decide +kernel
theorem dL_alike_39 : decode cL_alike 39 = .ok (.invokevirtual 163, 3) := by decide +kernel
theorem dL_alike_42 : decode cL_alike 42 = .ok (.aload_n 1, 1) := by decide +kernel
theorem dL_alike_43 : decode cL_alike 43 = .ok (.invokevirtual 163, 3) := by decide +kernel
theorem dL_alike_46 : decode cL_alike 46 = .ok (.if_icmp .ne 7, 3) := by decide +kernel
theorem dL_alike_49 : decode cL_alike 49 = .ok (.iconst 1, 1) := by decide +kernel
theorem dL_alike_50 : decode cL_alike 50 = .ok (.goto 4, 3) := by decide +kernel
theorem dL_alike_53 : decode cL_alike 53 = .ok (.iconst 0, 1) := by decide +kernel
theorem dL_alike_54 : decode cL_alike 54 = .ok (.istore_n 3, 1) := by decide +kernel
theorem dL_alike_55 : decode cL_alike 55 = .ok (.iconst 0, 1) := by decide +kernel
theorem dL_alike_56 : decode cL_alike 56 = .ok (.istore 4, 2) := by decide +kernel
theorem dL_alike_58 : decode cL_alike 58 = .ok (.iload 4, 2) := by decide +kernel
theorem dL_alike_60 : decode cL_alike 60 = .ok (.bipush 28, 2) := by decide +kernel
theorem dL_alike_62 : decode cL_alike 62 = .ok (.if_icmp .ge 169, 3) := by decide +kernel
theorem dL_alike_65 : decode cL_alike 65 = .ok (.iload_n 3, 1) := by decide +kernel
theorem dL_alike_66 : decode cL_alike 66 = .ok (.ifCond .eq 165, 3) := by decide +kernel
theorem dL_alike_69 : decode cL_alike 69 = .ok (.aload_n 0, 1) := by decide +kernel
theorem dL_alike_70 : decode cL_alike 70 = .ok (.iconst 3, 1) := by decide +kernel
theorem dL_alike_71 : decode cL_alike 71 = .ok (.iload 4, 2) := by decide +kernel
theorem dL_alike_73 : decode cL_alike 73 = .ok (.iload_n 2, 1) := by decide +kernel
theorem dL_alike_74 : decode cL_alike 74 = .ok (.iconst 5, 1) := by decide +kernel
theorem dL_alike_75 : decode cL_alike 75 = .ok (.irem, 1) := by decide +kernel
theorem dL_alike_76 : decode cL_alike 76 = .ok (.iconst 0, 1) := by decide +kernel
theorem dL_alike_77 : decode cL_alike 77 = .ok (.invokestatic 139, 3) := by decide +kernel
theorem dL_alike_80 : decode cL_alike 80 = .ok (.aload_n 1, 1) := by decide +kernel
theorem dL_alike_81 : decode cL_alike 81 = .ok (.iconst 3, 1) := by decide +kernel
theorem dL_alike_82 : decode cL_alike 82 = .ok (.iload 4, 2) := by decide +kernel
theorem dL_alike_84 : decode cL_alike 84 = .ok (.iload_n 2, 1) := by decide +kernel
theorem dL_alike_85 : decode cL_alike 85 = .ok (.iconst 5, 1) := by decide +kernel
theorem dL_alike_86 : decode cL_alike 86 = .ok (.irem, 1) := by decide +kernel
theorem dL_alike_87 : decode cL_alike 87 = .ok (.iconst 0, 1) := by decide +kernel
theorem dL_alike_88 : decode cL_alike 88 = .ok (.invokestatic 139, 3) := by decide +kernel
theorem dL_alike_91 : decode cL_alike 91 = .ok (.if_icmp .ne 132, 3) := by decide +kernel
theorem dL_alike_94 : decode cL_alike 94 = .ok (.aload_n 0, 1) := by decide +kernel
theorem dL_alike_95 : decode cL_alike 95 = .ok (.iconst 2, 1) := by decide +kernel
theorem dL_alike_96 : decode cL_alike 96 = .ok (.iload 4, 2) := by decide +kernel
theorem dL_alike_98 : decode cL_alike 98 = .ok (.iconst 0, 1) := by decide +kernel
theorem dL_alike_99 : decode cL_alike 99 = .ok (.iconst 0, 1) := by decide +kernel
theorem dL_alike_100 : decode cL_alike 100 = .ok (.invokestatic 139, 3) := by decide +kernel
theorem dL_alike_103 : decode cL_alike 103 = .ok (.aload_n 1, 1) := by decide +kernel
theorem dL_alike_104 : decode cL_alike 104 = .ok (.iconst 2, 1) := by decide +kernel
theorem dL_alike_105 : decode cL_alike 105 = .ok (.iload 4, 2) := by decide +kernel
theorem dL_alike_107 : decode cL_alike 107 = .ok (.iconst 0, 1) := by decide +kernel
theorem dL_alike_108 : decode cL_alike 108 = .ok (.iconst 0, 1) := by decide +kernel
theorem dL_alike_109 : decode cL_alike 109 = .ok (.invokestatic 139, 3) := by decide +kernel
theorem dL_alike_112 : decode cL_alike 112 = .ok (.if_icmp .ne 111, 3) := by decide +kernel
theorem dL_alike_115 : decode cL_alike 115 = .ok (.aload_n 0, 1) := by decide +kernel
theorem dL_alike_116 : decode cL_alike 116 = .ok (.iconst 4, 1) := by decide +kernel
theorem dL_alike_117 : decode cL_alike 117 = .ok (.iload 4, 2) := by decide +kernel
theorem dL_alike_119 : decode cL_alike 119 = .ok (.iload_n 2, 1) := by decide +kernel
theorem dL_alike_120 : decode cL_alike 120 = .ok (.bipush 6, 2) := by decide +kernel
theorem dL_alike_122 : decode cL_alike 122 = .ok (.irem, 1) := by decide +kernel
theorem dL_alike_123 : decode cL_alike 123 = .ok (.iconst 0, 1) := by decide +kernel
theorem dL_alike_124 : decode cL_alike 124 = .ok (.invokestatic 139, 3) := by decide +kernel
theorem dL_alike_127 : decode cL_alike 127 = .ok (.aload_n 1, 1) := by decide +kernel
theorem dL_alike_128 : decode cL_alike 128 = .ok (.iconst 4, 1) := by decide +kernel
theorem dL_alike_129 : decode cL_alike 129 = .ok (.iload 4, 2) := by decide +kernel
theorem dL_alike_131 : decode cL_alike 131 = .ok (.iload_n 2, 1) := by decide +kernel
theorem dL_alike_132 : decode cL_alike 132 = .ok (.bipush 6, 2) := by decide +kernel
theorem dL_alike_134 : decode cL_alike 134 = .ok (.irem, 1) := by decide +kernel
theorem dL_alike_135 : decode cL_alike 135 = .ok (.iconst 0, 1) := by decide +kernel
theorem dL_alike_136 : decode cL_alike 136 = .ok (.invokestatic 139, 3) := by decide +kernel
theorem dL_alike_139 : decode cL_alike 139 = .ok (.if_icmp .ne 84, 3) := by decide +kernel
theorem dL_alike_142 : decode cL_alike 142 = .ok (.aload_n 0, 1) := by decide +kernel
theorem dL_alike_143 : decode cL_alike 143 = .ok (.iconst 5, 1) := by decide +kernel
theorem dL_alike_144 : decode cL_alike 144 = .ok (.iload 4, 2) := by decide +kernel
theorem dL_alike_146 : decode cL_alike 146 = .ok (.iload_n 2, 1) := by decide +kernel
theorem dL_alike_147 : decode cL_alike 147 = .ok (.iconst 4, 1) := by decide +kernel
theorem dL_alike_148 : decode cL_alike 148 = .ok (.irem, 1) := by decide +kernel
theorem dL_alike_149 : decode cL_alike 149 = .ok (.iconst 0, 1) := by decide +kernel
theorem dL_alike_150 : decode cL_alike 150 = .ok (.invokestatic 139, 3) := by decide +kernel
theorem dL_alike_153 : decode cL_alike 153 = .ok (.aload_n 1, 1) := by decide +kernel
theorem dL_alike_154 : decode cL_alike 154 = .ok (.iconst 5, 1) := by decide +kernel
theorem dL_alike_155 : decode cL_alike 155 = .ok (.iload 4, 2) := by decide +kernel
theorem dL_alike_157 : decode cL_alike 157 = .ok (.iload_n 2, 1) := by decide +kernel
theorem dL_alike_158 : decode cL_alike 158 = .ok (.iconst 4, 1) := by decide +kernel
theorem dL_alike_159 : decode cL_alike 159 = .ok (.irem, 1) := by decide +kernel
theorem dL_alike_160 : decode cL_alike 160 = .ok (.iconst 0, 1) := by decide +kernel
theorem dL_alike_161 : decode cL_alike 161 = .ok (.invokestatic 139, 3) := by decide +kernel
theorem dL_alike_164 : decode cL_alike 164 = .ok (.if_icmp .ne 59, 3) := by decide +kernel
theorem dL_alike_167 : decode cL_alike 167 = .ok (.aload_n 0, 1) := by decide +kernel
theorem dL_alike_168 : decode cL_alike 168 = .ok (.bipush 13, 2) := by decide +kernel
theorem dL_alike_170 : decode cL_alike 170 = .ok (.iload 4, 2) := by decide +kernel
theorem dL_alike_172 : decode cL_alike 172 = .ok (.iconst 0, 1) := by decide +kernel
theorem dL_alike_173 : decode cL_alike 173 = .ok (.iconst 0, 1) := by decide +kernel
theorem dL_alike_174 : decode cL_alike 174 = .ok (.invokestatic 139, 3) := by decide +kernel
theorem dL_alike_177 : decode cL_alike 177 = .ok (.aload_n 1, 1) := by decide +kernel
theorem dL_alike_178 : decode cL_alike 178 = .ok (.bipush 13, 2) := by decide +kernel
theorem dL_alike_180 : decode cL_alike 180 = .ok (.iload 4, 2) := by decide +kernel
theorem dL_alike_182 : decode cL_alike 182 = .ok (.iconst 0, 1) := by decide +kernel
theorem dL_alike_183 : decode cL_alike 183 = .ok (.iconst 0, 1) := by decide +kernel
theorem dL_alike_184 : decode cL_alike 184 = .ok (.invokestatic 139, 3) := by decide +kernel
theorem dL_alike_187 : decode cL_alike 187 = .ok (.if_icmp .ne 36, 3) := by decide +kernel
theorem dL_alike_190 : decode cL_alike 190 = .ok (.aload_n 0, 1) := by decide +kernel
theorem dL_alike_191 : decode cL_alike 191 = .ok (.bipush 6, 2) := by decide +kernel
theorem dL_alike_193 : decode cL_alike 193 = .ok (.iload 4, 2) := by decide +kernel
theorem dL_alike_195 : decode cL_alike 195 = .ok (.iload_n 2, 1) := by decide +kernel
theorem dL_alike_196 : decode cL_alike 196 = .ok (.bipush 25, 2) := by decide +kernel
theorem dL_alike_198 : decode cL_alike 198 = .ok (.irem, 1) := by decide +kernel
theorem dL_alike_199 : decode cL_alike 199 = .ok (.iconst 0, 1) := by decide +kernel
theorem dL_alike_200 : decode cL_alike 200 = .ok (.invokestatic 139, 3) := by decide +kernel
theorem dL_alike_203 : decode cL_alike 203 = .ok (.aload_n 1, 1) := by decide +kernel
theorem dL_alike_204 : decode cL_alike 204 = .ok (.bipush 6, 2) := by decide +kernel
theorem dL_alike_206 : decode cL_alike 206 = .ok (.iload 4, 2) := by decide +kernel
theorem dL_alike_208 : decode cL_alike 208 = .ok (.iload_n 2, 1) := by decide +kernel
theorem dL_alike_209 : decode cL_alike 209 = .ok (.bipush 25, 2) := by decide +kernel
theorem dL_alike_211 : decode cL_alike 211 = .ok (.irem, 1) := by decide +kernel
theorem dL_alike_212 : decode cL_alike 212 = .ok (.iconst 0, 1) := by decide +kernel
theorem dL_alike_213 : decode cL_alike 213 = .ok (.invokestatic 139, 3) := by decide +kernel
theorem dL_alike_216 : decode cL_alike 216 = .ok (.if_icmp .ne 7, 3) := by decide +kernel
theorem dL_alike_219 : decode cL_alike 219 = .ok (.iconst 1, 1) := by decide +kernel
theorem dL_alike_220 : decode cL_alike 220 = .ok (.goto 4, 3) := by decide +kernel
theorem dL_alike_223 : decode cL_alike 223 = .ok (.iconst 0, 1) := by decide +kernel
theorem dL_alike_224 : decode cL_alike 224 = .ok (.istore_n 3, 1) := by decide +kernel
theorem dL_alike_225 : decode cL_alike 225 = .ok (.iinc 4 1, 3) := by decide +kernel
theorem dL_alike_228 : decode cL_alike 228 = .ok (.goto (-170), 3) := by decide +kernel
theorem dL_alike_231 : decode cL_alike 231 = .ok (.iload_n 3, 1) := by decide +kernel
theorem dL_alike_232 : decode cL_alike 232 = .ok (.ireturn, 1) := by decide +kernel
theorem dL_law_0 : decode cL_law 0 = .ok (.new 8, 3) := by decide +kernel
theorem dL_law_3 : decode cL_law 3 = .ok (.dup, 1) := by decide +kernel
theorem dL_law_4 : decode cL_law 4 = .ok (.invokespecial 172, 3) := by decide +kernel
theorem dL_law_7 : decode cL_law 7 = .ok (.astore_n 1, 1) := by decide +kernel
theorem dL_law_8 : decode cL_law 8 = .ok (.new 8, 3) := by decide +kernel
theorem dL_law_11 : decode cL_law 11 = .ok (.dup, 1) := by decide +kernel
theorem dL_law_12 : decode cL_law 12 = .ok (.invokespecial 172, 3) := by decide +kernel
theorem dL_law_15 : decode cL_law 15 = .ok (.astore_n 2, 1) := by decide +kernel
theorem dL_law_16 : decode cL_law 16 = .ok (.bipush 14, 2) := by decide +kernel
theorem dL_law_18 : decode cL_law 18 = .ok (.aload_n 0, 1) := by decide +kernel
theorem dL_law_19 : decode cL_law 19 = .ok (.iconst 0, 1) := by decide +kernel
theorem dL_law_20 : decode cL_law 20 = .ok (.invokestatic 173, 3) := by decide +kernel
theorem dL_law_23 : decode cL_law 23 = .ok (.bipush 27, 2) := by decide +kernel
theorem dL_law_25 : decode cL_law 25 = .ok (.irem, 1) := by decide +kernel
theorem dL_law_26 : decode cL_law 26 = .ok (.iadd, 1) := by decide +kernel
theorem dL_law_27 : decode cL_law 27 = .ok (.istore_n 3, 1) := by decide +kernel
theorem dL_law_28 : decode cL_law 28 = .ok (.iconst 1, 1) := by decide +kernel
theorem dL_law_29 : decode cL_law 29 = .ok (.istore 4, 2) := by decide +kernel
theorem dL_law_31 : decode cL_law 31 = .ok (.iconst 0, 1) := by decide +kernel
theorem dL_law_32 : decode cL_law 32 = .ok (.istore 5, 2) := by decide +kernel
theorem dL_law_34 : decode cL_law 34 = .ok (.iload 5, 2) := by decide +kernel
theorem dL_law_36 : decode cL_law 36 = .ok (.iload_n 3, 1) := by decide +kernel
theorem dL_law_37 : decode cL_law 37 = .ok (.if_icmp .ge 134, 3) := by decide +kernel
theorem dL_law_40 : decode cL_law 40 = .ok (.iload 4, 2) := by decide +kernel
theorem dL_law_42 : decode cL_law 42 = .ok (.ifCond .eq 129, 3) := by decide +kernel
theorem dL_law_45 : decode cL_law 45 = .ok (.aload_n 0, 1) := by decide +kernel
theorem dL_law_46 : decode cL_law 46 = .ok (.iconst 1, 1) := by decide +kernel
theorem dL_law_47 : decode cL_law 47 = .ok (.iload 5, 2) := by decide +kernel
theorem dL_law_49 : decode cL_law 49 = .ok (.iadd, 1) := by decide +kernel
theorem dL_law_50 : decode cL_law 50 = .ok (.invokestatic 173, 3) := by decide +kernel
theorem dL_law_53 : decode cL_law 53 = .ok (.istore 6, 2) := by decide +kernel
theorem dL_law_55 : decode cL_law 55 = .ok (.aload_n 1, 1) := by decide +kernel
theorem dL_law_56 : decode cL_law 56 = .ok (.iload 6, 2) := by decide +kernel
theorem dL_law_58 : decode cL_law 58 = .ok (.invokestatic 177, 3) := by decide +kernel
theorem dL_law_61 : decode cL_law 61 = .ok (.istore 7, 2) := by decide +kernel
theorem dL_law_63 : decode cL_law 63 = .ok (.aload_n 2, 1) := by decide +kernel
theorem dL_law_64 : decode cL_law 64 = .ok (.iload 6, 2) := by decide +kernel
theorem dL_law_66 : decode cL_law 66 = .ok (.ldc 180, 2) := by decide +kernel
theorem dL_law_68 : decode cL_law 68 = .ok (.irem, 1) := by decide +kernel
theorem dL_law_69 : decode cL_law 69 = .ok (.invokestatic 181, 3) := by decide +kernel
theorem dL_law_72 : decode cL_law 72 = .ok (.ifCond .eq 90, 3) := by decide +kernel
theorem dL_law_75 : decode cL_law 75 = .ok (.aload_n 2, 1) := by decide +kernel
theorem dL_law_76 : decode cL_law 76 = .ok (.iload 6, 2) := by decide +kernel
theorem dL_law_78 : decode cL_law 78 = .ok (.invokestatic 177, 3) := by decide +kernel
theorem dL_law_81 : decode cL_law 81 = .ok (.iload 7, 2) := by decide +kernel
theorem dL_law_83 : decode cL_law 83 = .ok (.if_icmp .ne 79, 3) := by decide +kernel
theorem dL_law_86 : decode cL_law 86 = .ok (.aload_n 2, 1) := by decide +kernel
theorem dL_law_87 : decode cL_law 87 = .ok (.iload 6, 2) := by decide +kernel
theorem dL_law_89 : decode cL_law 89 = .ok (.sipush 1000, 3) := by decide +kernel
theorem dL_law_92 : decode cL_law 92 = .ok (.irem, 1) := by decide +kernel
theorem dL_law_93 : decode cL_law 93 = .ok (.invokestatic 181, 3) := by decide +kernel
theorem dL_law_96 : decode cL_law 96 = .ok (.ifCond .eq 66, 3) := by decide +kernel
theorem dL_law_99 : decode cL_law 99 = .ok (.aload_n 1, 1) := by decide +kernel
theorem dL_law_100 : decode cL_law 100 = .ok (.aload_n 2, 1) := by decide +kernel
theorem dL_law_101 : decode cL_law 101 = .ok (.iload 6, 2) := by decide +kernel
theorem dL_law_103 : decode cL_law 103 = .ok (.sipush 5000, 3) := by decide +kernel
theorem dL_law_106 : decode cL_law 106 = .ok (.irem, 1) := by decide +kernel
theorem dL_law_107 : decode cL_law 107 = .ok (.invokestatic 185, 3) := by decide +kernel
theorem dL_law_110 : decode cL_law 110 = .ok (.ifCond .eq 52, 3) := by decide +kernel
theorem dL_law_113 : decode cL_law 113 = .ok (.iload 5, 2) := by decide +kernel
theorem dL_law_115 : decode cL_law 115 = .ok (.iconst 2, 1) := by decide +kernel
theorem dL_law_116 : decode cL_law 116 = .ok (.irem, 1) := by decide +kernel
theorem dL_law_117 : decode cL_law 117 = .ok (.ifCond .ne 17, 3) := by decide +kernel
theorem dL_law_120 : decode cL_law 120 = .ok (.aload_n 1, 1) := by decide +kernel
theorem dL_law_121 : decode cL_law 121 = .ok (.iload 6, 2) := by decide +kernel
theorem dL_law_123 : decode cL_law 123 = .ok (.iconst 3, 1) := by decide +kernel
theorem dL_law_124 : decode cL_law 124 = .ok (.idiv, 1) := by decide +kernel
theorem dL_law_125 : decode cL_law 125 = .ok (.invokestatic 189, 3) := by decide +kernel
theorem dL_law_128 : decode cL_law 128 = .ok (.ifCond .eq 34, 3) := by decide +kernel
theorem dL_law_131 : decode cL_law 131 = .ok (.goto 14, 3) := by decide +kernel
theorem dL_law_134 : decode cL_law 134 = .ok (.aload_n 2, 1) := by decide +kernel
theorem dL_law_135 : decode cL_law 135 = .ok (.iload 6, 2) := by decide +kernel
theorem dL_law_137 : decode cL_law 137 = .ok (.iconst 3, 1) := by decide +kernel
theorem dL_law_138 : decode cL_law 138 = .ok (.idiv, 1) := by decide +kernel
theorem dL_law_139 : decode cL_law 139 = .ok (.invokestatic 189, 3) := by decide +kernel
theorem dL_law_142 : decode cL_law 142 = .ok (.ifCond .eq 20, 3) := by decide +kernel
theorem dL_law_145 : decode cL_law 145 = .ok (.aload_n 1, 1) := by decide +kernel
theorem dL_law_146 : decode cL_law 146 = .ok (.aload_n 2, 1) := by decide +kernel
theorem dL_law_147 : decode cL_law 147 = .ok (.iload 6, 2) := by decide +kernel
theorem dL_law_149 : decode cL_law 149 = .ok (.bipush 7, 2) := by decide +kernel
theorem dL_law_151 : decode cL_law 151 = .ok (.idiv, 1) := by decide +kernel
theorem dL_law_152 : decode cL_law 152 = .ok (.invokestatic 192, 3) := by decide +kernel
theorem dL_law_155 : decode cL_law 155 = .ok (.ifCond .eq 7, 3) := by decide +kernel
theorem dL_law_158 : decode cL_law 158 = .ok (.iconst 1, 1) := by decide +kernel
theorem dL_law_159 : decode cL_law 159 = .ok (.goto 4, 3) := by decide +kernel
theorem dL_law_162 : decode cL_law 162 = .ok (.iconst 0, 1) := by decide +kernel
theorem dL_law_163 : decode cL_law 163 = .ok (.istore 4, 2) := by decide +kernel
theorem dL_law_165 : decode cL_law 165 = .ok (.iinc 5 1, 3) := by decide +kernel
theorem dL_law_168 : decode cL_law 168 = .ok (.goto (-134), 3) := by decide +kernel
theorem dL_law_171 : decode cL_law 171 = .ok (.iload 4, 2) := by decide +kernel
theorem dL_law_173 : decode cL_law 173 = .ok (.ireturn, 1) := by decide +kernel
theorem dL_lays_0 : decode cL_lays 0 = .ok (.aload_n 0, 1) := by decide +kernel
theorem dL_lays_1 : decode cL_lays 1 = .ok (.iconst 2, 1) := by decide +kernel
theorem dL_lays_2 : decode cL_lays 2 = .ok (.iconst 1, 1) := by decide +kernel
theorem dL_lays_3 : decode cL_lays 3 = .ok (.iconst 0, 1) := by decide +kernel
theorem dL_lays_4 : decode cL_lays 4 = .ok (.iconst 0, 1) := by decide +kernel
theorem dL_lays_5 : decode cL_lays 5 = .ok (.invokestatic 139, 3) := by decide +kernel
theorem dL_lays_8 : decode cL_lays 8 = .ok (.iconst 1, 1) := by decide +kernel
theorem dL_lays_9 : decode cL_lays 9 = .ok (.if_icmp .eq 5, 3) := by decide +kernel
theorem dL_lays_12 : decode cL_lays 12 = .ok (.iconst 1, 1) := by decide +kernel
theorem dL_lays_13 : decode cL_lays 13 = .ok (.ireturn, 1) := by decide +kernel
theorem dL_lays_14 : decode cL_lays 14 = .ok (.iload_n 2, 1) := by decide +kernel
theorem dL_lays_15 : decode cL_lays 15 = .ok (.bipush 28, 2) := by decide +kernel
theorem dL_lays_17 : decode cL_lays 17 = .ok (.irem, 1) := by decide +kernel
theorem dL_lays_18 : decode cL_lays 18 = .ok (.istore_n 3, 1) := by decide +kernel
theorem dL_lays_19 : decode cL_lays 19 = .ok (.aload_n 0, 1) := by decide +kernel
theorem dL_lays_20 : decode cL_lays 20 = .ok (.invokevirtual 163, 3) := by decide +kernel
theorem dL_lays_23 : decode cL_lays 23 = .ok (.istore 4, 2) := by decide +kernel
theorem dL_lays_25 : decode cL_lays 25 = .ok (.iload 4, 2) := by decide +kernel
theorem dL_lays_27 : decode cL_lays 27 = .ok (.iconst (-1), 1) := by decide +kernel
theorem dL_lays_28 : decode cL_lays 28 = .ok (.if_icmp .eq 14, 3) := by decide +kernel
theorem dL_lays_31 : decode cL_lays 31 = .ok (.iload_n 2, 1) := by decide +kernel
theorem dL_lays_32 : decode cL_lays 32 = .ok (.iconst 3, 1) := by decide +kernel
theorem dL_lays_33 : decode cL_lays 33 = .ok (.irem, 1) := by decide +kernel
theorem dL_lays_34 : decode cL_lays 34 = .ok (.ifCond .ne 8, 3) := by decide +kernel
theorem dL_lays_37 : decode cL_lays 37 = .ok (.iload 4, 2) := by decide +kernel
theorem dL_lays_39 : decode cL_lays 39 = .ok (.goto 4, 3) := by decide +kernel
theorem dL_lays_42 : decode cL_lays 42 = .ok (.iload_n 3, 1) := by decide +kernel
theorem dL_lays_43 : decode cL_lays 43 = .ok (.istore_n 3, 1) := by decide +kernel
theorem dL_lays_44 : decode cL_lays 44 = .ok (.iload_n 2, 1) := by decide +kernel
theorem dL_lays_45 : decode cL_lays 45 = .ok (.bipush 28, 2) := by decide +kernel
theorem dL_lays_47 : decode cL_lays 47 = .ok (.idiv, 1) := by decide +kernel
theorem dL_lays_48 : decode cL_lays 48 = .ok (.iconst 2, 1) := by decide +kernel
theorem dL_lays_49 : decode cL_lays 49 = .ok (.irem, 1) := by decide +kernel
theorem dL_lays_50 : decode cL_lays 50 = .ok (.ifCond .ne 7, 3) := by decide +kernel
theorem dL_lays_53 : decode cL_lays 53 = .ok (.iconst 1, 1) := by decide +kernel
theorem dL_lays_54 : decode cL_lays 54 = .ok (.goto 4, 3) := by decide +kernel
theorem dL_lays_57 : decode cL_lays 57 = .ok (.iconst 0, 1) := by decide +kernel
theorem dL_lays_58 : decode cL_lays 58 = .ok (.istore 5, 2) := by decide +kernel
theorem dL_lays_60 : decode cL_lays 60 = .ok (.aload_n 0, 1) := by decide +kernel
theorem dL_lays_61 : decode cL_lays 61 = .ok (.bipush 11, 2) := by decide +kernel
theorem dL_lays_63 : decode cL_lays 63 = .ok (.iload_n 3, 1) := by decide +kernel
theorem dL_lays_64 : decode cL_lays 64 = .ok (.iconst 0, 1) := by decide +kernel
theorem dL_lays_65 : decode cL_lays 65 = .ok (.iconst 0, 1) := by decide +kernel
theorem dL_lays_66 : decode cL_lays 66 = .ok (.invokestatic 139, 3) := by decide +kernel
theorem dL_lays_69 : decode cL_lays 69 = .ok (.istore 6, 2) := by decide +kernel
theorem dL_lays_71 : decode cL_lays 71 = .ok (.aload_n 0, 1) := by decide +kernel
theorem dL_lays_72 : decode cL_lays 72 = .ok (.iconst 2, 1) := by decide +kernel
theorem dL_lays_73 : decode cL_lays 73 = .ok (.iconst 3, 1) := by decide +kernel
theorem dL_lays_74 : decode cL_lays 74 = .ok (.iconst 0, 1) := by decide +kernel
theorem dL_lays_75 : decode cL_lays 75 = .ok (.iconst 0, 1) := by decide +kernel
theorem dL_lays_76 : decode cL_lays 76 = .ok (.invokestatic 139, 3) := by decide +kernel
theorem dL_lays_79 : decode cL_lays 79 = .ok (.istore 7, 2) := by decide +kernel
theorem dL_lays_81 : decode cL_lays 81 = .ok (.aload_n 0, 1) := by decide +kernel
theorem dL_lays_82 : decode cL_lays 82 = .ok (.iconst 2, 1) := by decide +kernel
theorem dL_lays_83 : decode cL_lays 83 = .ok (.bipush 7, 2) := by decide +kernel
theorem dL_lays_85 : decode cL_lays 85 = .ok (.iconst 0, 1) := by decide +kernel
theorem dL_lays_86 : decode cL_lays 86 = .ok (.iconst 0, 1) := by decide +kernel
theorem dL_lays_87 : decode cL_lays 87 = .ok (.invokestatic 139, 3) := by decide +kernel
theorem dL_lays_90 : decode cL_lays 90 = .ok (.istore 8, 2) := by decide +kernel
theorem dL_lays_92 : decode cL_lays 92 = .ok (.aload_n 0, 1) := by decide +kernel
theorem dL_lays_93 : decode cL_lays 93 = .ok (.iconst 2, 1) := by decide +kernel
theorem dL_lays_94 : decode cL_lays 94 = .ok (.iconst 5, 1) := by decide +kernel
theorem dL_lays_95 : decode cL_lays 95 = .ok (.iconst 0, 1) := by decide +kernel
theorem dL_lays_96 : decode cL_lays 96 = .ok (.iconst 0, 1) := by decide +kernel
theorem dL_lays_97 : decode cL_lays 97 = .ok (.invokestatic 139, 3) := by decide +kernel
theorem dL_lays_100 : decode cL_lays 100 = .ok (.istore 9, 2) := by decide +kernel
theorem dL_lays_102 : decode cL_lays 102 = .ok (.aload_n 0, 1) := by decide +kernel
theorem dL_lays_103 : decode cL_lays 103 = .ok (.iconst 2, 1) := by decide +kernel
theorem dL_lays_104 : decode cL_lays 104 = .ok (.bipush 10, 2) := by decide +kernel
theorem dL_lays_106 : decode cL_lays 106 = .ok (.iconst 0, 1) := by decide +kernel
theorem dL_lays_107 : decode cL_lays 107 = .ok (.iconst 0, 1) := by decide +kernel
theorem dL_lays_108 : decode cL_lays 108 = .ok (.invokestatic 139, 3) := by decide +kernel
theorem dL_lays_111 : decode cL_lays 111 = .ok (.istore 10, 2) := by decide +kernel
theorem dL_lays_113 : decode cL_lays 113 = .ok (.aload_n 0, 1) := by decide +kernel
theorem dL_lays_114 : decode cL_lays 114 = .ok (.iconst 5, 1) := by decide +kernel
theorem dL_lays_115 : decode cL_lays 115 = .ok (.iload 7, 2) := by decide +kernel
theorem dL_lays_117 : decode cL_lays 117 = .ok (.iconst 0, 1) := by decide +kernel
theorem dL_lays_118 : decode cL_lays 118 = .ok (.iconst 0, 1) := by decide +kernel
theorem dL_lays_119 : decode cL_lays 119 = .ok (.invokestatic 139, 3) := by decide +kernel
theorem dL_lays_122 : decode cL_lays 122 = .ok (.istore 11, 2) := by decide +kernel
theorem dL_lays_124 : decode cL_lays 124 = .ok (.aload_n 0, 1) := by decide +kernel
theorem dL_lays_125 : decode cL_lays 125 = .ok (.iconst 5, 1) := by decide +kernel
theorem dL_lays_126 : decode cL_lays 126 = .ok (.iload 7, 2) := by decide +kernel
theorem dL_lays_128 : decode cL_lays 128 = .ok (.iconst 2, 1) := by decide +kernel
theorem dL_lays_129 : decode cL_lays 129 = .ok (.iconst 0, 1) := by decide +kernel
theorem dL_lays_130 : decode cL_lays 130 = .ok (.invokestatic 139, 3) := by decide +kernel
theorem dL_lays_133 : decode cL_lays 133 = .ok (.istore 12, 2) := by decide +kernel
theorem dL_lays_135 : decode cL_lays 135 = .ok (.aload_n 0, 1) := by decide +kernel
theorem dL_lays_136 : decode cL_lays 136 = .ok (.iconst 5, 1) := by decide +kernel
theorem dL_lays_137 : decode cL_lays 137 = .ok (.iconst 0, 1) := by decide +kernel
theorem dL_lays_138 : decode cL_lays 138 = .ok (.iconst 1, 1) := by decide +kernel
theorem dL_lays_139 : decode cL_lays 139 = .ok (.iconst 0, 1) := by decide +kernel
theorem dL_lays_140 : decode cL_lays 140 = .ok (.invokestatic 139, 3) := by decide +kernel
theorem dL_lays_143 : decode cL_lays 143 = .ok (.aload_n 0, 1) := by decide +kernel
theorem dL_lays_144 : decode cL_lays 144 = .ok (.iconst 5, 1) := by decide +kernel
theorem dL_lays_145 : decode cL_lays 145 = .ok (.iconst 1, 1) := by decide +kernel
theorem dL_lays_146 : decode cL_lays 146 = .ok (.iconst 1, 1) := by decide +kernel
theorem dL_lays_147 : decode cL_lays 147 = .ok (.iconst 0, 1) := by decide +kernel
theorem dL_lays_148 : decode cL_lays 148 = .ok (.invokestatic 139, 3) := by decide +kernel
theorem dL_lays_151 : decode cL_lays 151 = .ok (.iadd, 1) := by decide +kernel
theorem dL_lays_152 : decode cL_lays 152 = .ok (.aload_n 0, 1) := by decide +kernel
theorem dL_lays_153 : decode cL_lays 153 = .ok (.iconst 5, 1) := by decide +kernel
theorem dL_lays_154 : decode cL_lays 154 = .ok (.iconst 2, 1) := by decide +kernel
theorem dL_lays_155 : decode cL_lays 155 = .ok (.iconst 1, 1) := by decide +kernel
theorem dL_lays_156 : decode cL_lays 156 = .ok (.iconst 0, 1) := by decide +kernel
theorem dL_lays_157 : decode cL_lays 157 = .ok (.invokestatic 139, 3) := by decide +kernel
theorem dL_lays_160 : decode cL_lays 160 = .ok (.iadd, 1) := by decide +kernel
theorem dL_lays_161 : decode cL_lays 161 = .ok (.aload_n 0, 1) := by decide +kernel
theorem dL_lays_162 : decode cL_lays 162 = .ok (.iconst 5, 1) := by decide +kernel
theorem dL_lays_163 : decode cL_lays 163 = .ok (.iconst 3, 1) := by decide +kernel
theorem dL_lays_164 : decode cL_lays 164 = .ok (.iconst 1, 1) := by decide +kernel
theorem dL_lays_165 : decode cL_lays 165 = .ok (.iconst 0, 1) := by decide +kernel
theorem dL_lays_166 : decode cL_lays 166 = .ok (.invokestatic 139, 3) := by decide +kernel
theorem dL_lays_169 : decode cL_lays 169 = .ok (.iadd, 1) := by decide +kernel
theorem dL_lays_170 : decode cL_lays 170 = .ok (.istore 13, 2) := by decide +kernel
theorem dL_lays_172 : decode cL_lays 172 = .ok (.aload_n 0, 1) := by decide +kernel
theorem dL_lays_173 : decode cL_lays 173 = .ok (.iconst 3, 1) := by decide +kernel
theorem dL_lays_174 : decode cL_lays 174 = .ok (.iload_n 3, 1) := by decide +kernel
theorem dL_lays_175 : decode cL_lays 175 = .ok (.iconst 0, 1) := by decide +kernel
theorem dL_lays_176 : decode cL_lays 176 = .ok (.iconst 0, 1) := by decide +kernel
theorem dL_lays_177 : decode cL_lays 177 = .ok (.invokestatic 139, 3) := by decide +kernel
theorem dL_lays_180 : decode cL_lays 180 = .ok (.istore 14, 2) := by decide +kernel
theorem dL_lays_182 : decode cL_lays 182 = .ok (.aload_n 0, 1) := by decide +kernel
theorem dL_lays_183 : decode cL_lays 183 = .ok (.iconst 3, 1) := by decide +kernel
theorem dL_lays_184 : decode cL_lays 184 = .ok (.iload_n 3, 1) := by decide +kernel
theorem dL_lays_185 : decode cL_lays 185 = .ok (.iconst 1, 1) := by decide +kernel
theorem dL_lays_186 : decode cL_lays 186 = .ok (.iconst 0, 1) := by decide +kernel
theorem dL_lays_187 : decode cL_lays 187 = .ok (.invokestatic 139, 3) := by decide +kernel
theorem dL_lays_190 : decode cL_lays 190 = .ok (.istore 15, 2) := by decide +kernel
theorem dL_lays_192 : decode cL_lays 192 = .ok (.aload_n 0, 1) := by decide +kernel
theorem dL_lays_193 : decode cL_lays 193 = .ok (.iload_n 3, 1) := by decide +kernel
theorem dL_lays_194 : decode cL_lays 194 = .ok (.iload 5, 2) := by decide +kernel
theorem dL_lays_196 : decode cL_lays 196 = .ok (.invokestatic 147, 3) := by decide +kernel
theorem dL_lays_199 : decode cL_lays 199 = .ok (.iload 6, 2) := by decide +kernel
theorem dL_lays_201 : decode cL_lays 201 = .ok (.if_icmp .ne 68, 3) := by decide +kernel
theorem dL_lays_204 : decode cL_lays 204 = .ok (.aload_n 1, 1) := by decide +kernel
theorem dL_lays_205 : decode cL_lays 205 = .ok (.iload_n 3, 1) := by decide +kernel
theorem dL_lays_206 : decode cL_lays 206 = .ok (.iload 5, 2) := by decide +kernel
theorem dL_lays_208 : decode cL_lays 208 = .ok (.invokestatic 147, 3) := by decide +kernel
theorem dL_lays_211 : decode cL_lays 211 = .ok (.iload 6, 2) := by decide +kernel
theorem dL_lays_213 : decode cL_lays 213 = .ok (.if_icmp .ne 56, 3) := by decide +kernel
theorem dL_lays_216 : decode cL_lays 216 = .ok (.aload_n 0, 1) := by decide +kernel
theorem dL_lays_217 : decode cL_lays 217 = .ok (.iconst 2, 1) := by decide +kernel
theorem dL_lays_218 : decode cL_lays 218 = .ok (.bipush 10, 2) := by decide +kernel
theorem dL_lays_220 : decode cL_lays 220 = .ok (.iconst 0, 1) := by decide +kernel
theorem dL_lays_221 : decode cL_lays 221 = .ok (.iconst 0, 1) := by decide +kernel
theorem dL_lays_222 : decode cL_lays 222 = .ok (.invokestatic 139, 3) := by decide +kernel
theorem dL_lays_225 : decode cL_lays 225 = .ok (.iload 10, 2) := by decide +kernel
theorem dL_lays_227 : decode cL_lays 227 = .ok (.iload 6, 2) := by decide +kernel
theorem dL_lays_229 : decode cL_lays 229 = .ok (.ifCond .ne 7, 3) := by decide +kernel
theorem dL_lays_232 : decode cL_lays 232 = .ok (.iconst 0, 1) := by decide +kernel
theorem dL_lays_233 : decode cL_lays 233 = .ok (.goto 4, 3) := by decide +kernel
theorem dL_lays_236 : decode cL_lays 236 = .ok (.iconst 1, 1) := by decide +kernel
theorem dL_lays_237 : decode cL_lays 237 = .ok (.iadd, 1) := by decide +kernel
theorem dL_lays_238 : decode cL_lays 238 = .ok (.if_icmp .ne 31, 3) := by decide +kernel
theorem dL_lays_241 : decode cL_lays 241 = .ok (.aload_n 0, 1) := by decide +kernel
theorem dL_lays_242 : decode cL_lays 242 = .ok (.iconst 2, 1) := by decide +kernel
theorem dL_lays_243 : decode cL_lays 243 = .ok (.iconst 5, 1) := by decide +kernel
theorem dL_lays_244 : decode cL_lays 244 = .ok (.iconst 0, 1) := by decide +kernel
theorem dL_lays_245 : decode cL_lays 245 = .ok (.iconst 0, 1) := by decide +kernel
theorem dL_lays_246 : decode cL_lays 246 = .ok (.invokestatic 139, 3) := by decide +kernel
theorem dL_lays_249 : decode cL_lays 249 = .ok (.iload 9, 2) := by decide +kernel
theorem dL_lays_251 : decode cL_lays 251 = .ok (.iload 6, 2) := by decide +kernel
theorem dL_lays_253 : decode cL_lays 253 = .ok (.ifCond .ne 7, 3) := by decide +kernel
theorem dL_lays_256 : decode cL_lays 256 = .ok (.iconst 1, 1) := by decide +kernel
theorem dL_lays_257 : decode cL_lays 257 = .ok (.goto 4, 3) := by decide +kernel
theorem dL_lays_260 : decode cL_lays 260 = .ok (.iconst 0, 1) := by decide +kernel
theorem dL_lays_261 : decode cL_lays 261 = .ok (.iadd, 1) := by decide +kernel
theorem dL_lays_262 : decode cL_lays 262 = .ok (.if_icmp .ne 7, 3) := by decide +kernel
theorem dL_lays_265 : decode cL_lays 265 = .ok (.iconst 1, 1) := by decide +kernel
theorem dL_lays_266 : decode cL_lays 266 = .ok (.goto 4, 3) := by decide +kernel
theorem dL_lays_269 : decode cL_lays 269 = .ok (.iconst 0, 1) := by decide +kernel
theorem dL_lays_270 : decode cL_lays 270 = .ok (.istore 16, 2) := by decide +kernel
theorem dL_lays_272 : decode cL_lays 272 = .ok (.iload 6, 2) := by decide +kernel
theorem dL_lays_274 : decode cL_lays 274 = .ok (.ifCond .ne 197, 3) := by decide +kernel
theorem dL_lays_277 : decode cL_lays 277 = .ok (.iload 14, 2) := by decide +kernel
theorem dL_lays_279 : decode cL_lays 279 = .ok (.iload 15, 2) := by decide +kernel
theorem dL_lays_281 : decode cL_lays 281 = .ok (.if_icmp .ne 21, 3) := by decide +kernel
theorem dL_lays_284 : decode cL_lays 284 = .ok (.iload 8, 2) := by decide +kernel
theorem dL_lays_286 : decode cL_lays 286 = .ok (.iload 5, 2) := by decide +kernel
theorem dL_lays_288 : decode cL_lays 288 = .ok (.ifCond .eq 7, 3) := by decide +kernel
theorem dL_lays_291 : decode cL_lays 291 = .ok (.iconst 3, 1) := by decide +kernel
theorem dL_lays_292 : decode cL_lays 292 = .ok (.goto 4, 3) := by decide +kernel
theorem dL_lays_295 : decode cL_lays 295 = .ok (.iconst 1, 1) := by decide +kernel
theorem dL_lays_296 : decode cL_lays 296 = .ok (.iadd, 1) := by decide +kernel
theorem dL_lays_297 : decode cL_lays 297 = .ok (.iconst 4, 1) := by decide +kernel
theorem dL_lays_298 : decode cL_lays 298 = .ok (.irem, 1) := by decide +kernel
theorem dL_lays_299 : decode cL_lays 299 = .ok (.goto 5, 3) := by decide +kernel
theorem dL_lays_302 : decode cL_lays 302 = .ok (.iload 8, 2) := by decide +kernel
theorem dL_lays_304 : decode cL_lays 304 = .ok (.istore 17, 2) := by decide +kernel
theorem dL_lays_306 : decode cL_lays 306 = .ok (.iload 11, 2) := by decide +kernel
theorem dL_lays_308 : decode cL_lays 308 = .ok (.iconst 1, 1) := by decide +kernel
theorem dL_lays_309 : decode cL_lays 309 = .ok (.if_icmp .ne 7, 3) := by decide +kernel
theorem dL_lays_312 : decode cL_lays 312 = .ok (.iconst 1, 1) := by decide +kernel
theorem dL_lays_313 : decode cL_lays 313 = .ok (.goto 4, 3) := by decide +kernel
theorem dL_lays_316 : decode cL_lays 316 = .ok (.iconst 0, 1) := by decide +kernel
theorem dL_lays_317 : decode cL_lays 317 = .ok (.istore 18, 2) := by decide +kernel
theorem dL_lays_319 : decode cL_lays 319 = .ok (.iload 16, 2) := by decide +kernel
theorem dL_lays_321 : decode cL_lays 321 = .ok (.ifCond .eq 147, 3) := by decide +kernel
theorem dL_lays_324 : decode cL_lays 324 = .ok (.aload_n 0, 1) := by decide +kernel
theorem dL_lays_325 : decode cL_lays 325 = .ok (.iconst 4, 1) := by decide +kernel
theorem dL_lays_326 : decode cL_lays 326 = .ok (.iload 9, 2) := by decide +kernel
theorem dL_lays_328 : decode cL_lays 328 = .ok (.iconst 0, 1) := by decide +kernel
theorem dL_lays_329 : decode cL_lays 329 = .ok (.iconst 0, 1) := by decide +kernel
theorem dL_lays_330 : decode cL_lays 330 = .ok (.invokestatic 139, 3) := by decide +kernel
theorem dL_lays_333 : decode cL_lays 333 = .ok (.iload_n 3, 1) := by decide +kernel
theorem dL_lays_334 : decode cL_lays 334 = .ok (.if_icmp .ne 134, 3) := by decide +kernel
theorem dL_lays_337 : decode cL_lays 337 = .ok (.aload_n 0, 1) := by decide +kernel
theorem dL_lays_338 : decode cL_lays 338 = .ok (.iconst 4, 1) := by decide +kernel
theorem dL_lays_339 : decode cL_lays 339 = .ok (.iload 9, 2) := by decide +kernel
theorem dL_lays_341 : decode cL_lays 341 = .ok (.iconst 3, 1) := by decide +kernel
theorem dL_lays_342 : decode cL_lays 342 = .ok (.iconst 0, 1) := by decide +kernel
theorem dL_lays_343 : decode cL_lays 343 = .ok (.invokestatic 139, 3) := by decide +kernel
theorem dL_lays_346 : decode cL_lays 346 = .ok (.iload 8, 2) := by decide +kernel
theorem dL_lays_348 : decode cL_lays 348 = .ok (.if_icmp .ne 120, 3) := by decide +kernel
theorem dL_lays_351 : decode cL_lays 351 = .ok (.aload_n 0, 1) := by decide +kernel
theorem dL_lays_352 : decode cL_lays 352 = .ok (.iconst 2, 1) := by decide +kernel
theorem dL_lays_353 : decode cL_lays 353 = .ok (.bipush 7, 2) := by decide +kernel
theorem dL_lays_355 : decode cL_lays 355 = .ok (.iconst 0, 1) := by decide +kernel
theorem dL_lays_356 : decode cL_lays 356 = .ok (.iconst 0, 1) := by decide +kernel
theorem dL_lays_357 : decode cL_lays 357 = .ok (.invokestatic 139, 3) := by decide +kernel
theorem dL_lays_360 : decode cL_lays 360 = .ok (.iload 17, 2) := by decide +kernel
theorem dL_lays_362 : decode cL_lays 362 = .ok (.if_icmp .ne 106, 3) := by decide +kernel
theorem dL_lays_365 : decode cL_lays 365 = .ok (.aload_n 0, 1) := by decide +kernel
theorem dL_lays_366 : decode cL_lays 366 = .ok (.iconst 5, 1) := by decide +kernel
theorem dL_lays_367 : decode cL_lays 367 = .ok (.iload 7, 2) := by decide +kernel
theorem dL_lays_369 : decode cL_lays 369 = .ok (.iconst 0, 1) := by decide +kernel
theorem dL_lays_370 : decode cL_lays 370 = .ok (.iconst 0, 1) := by decide +kernel
theorem dL_lays_371 : decode cL_lays 371 = .ok (.invokestatic 139, 3) := by decide +kernel
theorem dL_lays_374 : decode cL_lays 374 = .ok (.iload 11, 2) := by decide +kernel
theorem dL_lays_376 : decode cL_lays 376 = .ok (.iconst 1, 1) := by decide +kernel
theorem dL_lays_377 : decode cL_lays 377 = .ok (.isub, 1) := by decide +kernel
theorem dL_lays_378 : decode cL_lays 378 = .ok (.if_icmp .ne 90, 3) := by decide +kernel
theorem dL_lays_381 : decode cL_lays 381 = .ok (.aload_n 0, 1) := by decide +kernel
theorem dL_lays_382 : decode cL_lays 382 = .ok (.iconst 2, 1) := by decide +kernel
theorem dL_lays_383 : decode cL_lays 383 = .ok (.iconst 1, 1) := by decide +kernel
theorem dL_lays_384 : decode cL_lays 384 = .ok (.iconst 0, 1) := by decide +kernel
theorem dL_lays_385 : decode cL_lays 385 = .ok (.iconst 0, 1) := by decide +kernel
theorem dL_lays_386 : decode cL_lays 386 = .ok (.invokestatic 139, 3) := by decide +kernel
theorem dL_lays_389 : decode cL_lays 389 = .ok (.iconst 2, 1) := by decide +kernel
theorem dL_lays_390 : decode cL_lays 390 = .ok (.if_icmp .ne 7, 3) := by decide +kernel
theorem dL_lays_393 : decode cL_lays 393 = .ok (.iconst 1, 1) := by decide +kernel
theorem dL_lays_394 : decode cL_lays 394 = .ok (.goto 4, 3) := by decide +kernel
theorem dL_lays_397 : decode cL_lays 397 = .ok (.iconst 0, 1) := by decide +kernel
theorem dL_lays_398 : decode cL_lays 398 = .ok (.iload 18, 2) := by decide +kernel
theorem dL_lays_400 : decode cL_lays 400 = .ok (.if_icmp .ne 68, 3) := by decide +kernel
theorem dL_lays_403 : decode cL_lays 403 = .ok (.aload_n 0, 1) := by decide +kernel
theorem dL_lays_404 : decode cL_lays 404 = .ok (.iconst 5, 1) := by decide +kernel
theorem dL_lays_405 : decode cL_lays 405 = .ok (.iload 7, 2) := by decide +kernel
theorem dL_lays_407 : decode cL_lays 407 = .ok (.iconst 2, 1) := by decide +kernel
theorem dL_lays_408 : decode cL_lays 408 = .ok (.iconst 0, 1) := by decide +kernel
theorem dL_lays_409 : decode cL_lays 409 = .ok (.invokestatic 139, 3) := by decide +kernel
theorem dL_lays_412 : decode cL_lays 412 = .ok (.iload 12, 2) := by decide +kernel
theorem dL_lays_414 : decode cL_lays 414 = .ok (.iload 18, 2) := by decide +kernel
theorem dL_lays_416 : decode cL_lays 416 = .ok (.ifCond .eq 14, 3) := by decide +kernel
theorem dL_lays_419 : decode cL_lays 419 = .ok (.iload 13, 2) := by decide +kernel
theorem dL_lays_421 : decode cL_lays 421 = .ok (.iload 14, 2) := by decide +kernel
theorem dL_lays_423 : decode cL_lays 423 = .ok (.isub, 1) := by decide +kernel
theorem dL_lays_424 : decode cL_lays 424 = .ok (.iload 15, 2) := by decide +kernel
theorem dL_lays_426 : decode cL_lays 426 = .ok (.isub, 1) := by decide +kernel
theorem dL_lays_427 : decode cL_lays 427 = .ok (.goto 4, 3) := by decide +kernel
theorem dL_lays_430 : decode cL_lays 430 = .ok (.iconst 0, 1) := by decide +kernel
theorem dL_lays_431 : decode cL_lays 431 = .ok (.iadd, 1) := by decide +kernel
theorem dL_lays_432 : decode cL_lays 432 = .ok (.if_icmp .ne 36, 3) := by decide +kernel
theorem dL_lays_435 : decode cL_lays 435 = .ok (.iload 18, 2) := by decide +kernel
theorem dL_lays_437 : decode cL_lays 437 = .ok (.ifCond .ne 27, 3) := by decide +kernel
theorem dL_lays_440 : decode cL_lays 440 = .ok (.aload_n 0, 1) := by decide +kernel
theorem dL_lays_441 : decode cL_lays 441 = .ok (.iconst 2, 1) := by decide +kernel
theorem dL_lays_442 : decode cL_lays 442 = .ok (.iconst 3, 1) := by decide +kernel
theorem dL_lays_443 : decode cL_lays 443 = .ok (.iconst 0, 1) := by decide +kernel
theorem dL_lays_444 : decode cL_lays 444 = .ok (.iconst 0, 1) := by decide +kernel
theorem dL_lays_445 : decode cL_lays 445 = .ok (.invokestatic 139, 3) := by decide +kernel
theorem dL_lays_448 : decode cL_lays 448 = .ok (.iload 7, 2) := by decide +kernel
theorem dL_lays_450 : decode cL_lays 450 = .ok (.iconst 1, 1) := by decide +kernel
theorem dL_lays_451 : decode cL_lays 451 = .ok (.iadd, 1) := by decide +kernel
theorem dL_lays_452 : decode cL_lays 452 = .ok (.aload_n 0, 1) := by decide +kernel
theorem dL_lays_453 : decode cL_lays 453 = .ok (.iconst 2, 1) := by decide +kernel
theorem dL_lays_454 : decode cL_lays 454 = .ok (.iconst 2, 1) := by decide +kernel
theorem dL_lays_455 : decode cL_lays 455 = .ok (.iconst 0, 1) := by decide +kernel
theorem dL_lays_456 : decode cL_lays 456 = .ok (.iconst 0, 1) := by decide +kernel
theorem dL_lays_457 : decode cL_lays 457 = .ok (.invokestatic 139, 3) := by decide +kernel
theorem dL_lays_460 : decode cL_lays 460 = .ok (.irem, 1) := by decide +kernel
theorem dL_lays_461 : decode cL_lays 461 = .ok (.if_icmp .ne 7, 3) := by decide +kernel
theorem dL_lays_464 : decode cL_lays 464 = .ok (.iconst 1, 1) := by decide +kernel
theorem dL_lays_465 : decode cL_lays 465 = .ok (.goto 4, 3) := by decide +kernel
theorem dL_lays_468 : decode cL_lays 468 = .ok (.iconst 0, 1) := by decide +kernel
theorem dL_lays_469 : decode cL_lays 469 = .ok (.istore 16, 2) := by decide +kernel
theorem dL_lays_471 : decode cL_lays 471 = .ok (.iload 16, 2) := by decide +kernel
theorem dL_lays_473 : decode cL_lays 473 = .ok (.ifCond .eq 91, 3) := by decide +kernel
theorem dL_lays_476 : decode cL_lays 476 = .ok (.aload_n 0, 1) := by decide +kernel
theorem dL_lays_477 : decode cL_lays 477 = .ok (.bipush 10, 2) := by decide +kernel
theorem dL_lays_479 : decode cL_lays 479 = .ok (.iconst 0, 1) := by decide +kernel
theorem dL_lays_480 : decode cL_lays 480 = .ok (.iconst 0, 1) := by decide +kernel
theorem dL_lays_481 : decode cL_lays 481 = .ok (.iconst 0, 1) := by decide +kernel
theorem dL_lays_482 : decode cL_lays 482 = .ok (.invokestatic 139, 3) := by decide +kernel
theorem dL_lays_485 : decode cL_lays 485 = .ok (.invokestatic 195, 3) := by decide +kernel
theorem dL_lays_488 : decode cL_lays 488 = .ok (.ifCond .ne 76, 3) := by decide +kernel
theorem dL_lays_491 : decode cL_lays 491 = .ok (.aload_n 1, 1) := by decide +kernel
theorem dL_lays_492 : decode cL_lays 492 = .ok (.bipush 10, 2) := by decide +kernel
theorem dL_lays_494 : decode cL_lays 494 = .ok (.iconst 0, 1) := by decide +kernel
theorem dL_lays_495 : decode cL_lays 495 = .ok (.iconst 0, 1) := by decide +kernel
theorem dL_lays_496 : decode cL_lays 496 = .ok (.iconst 0, 1) := by decide +kernel
theorem dL_lays_497 : decode cL_lays 497 = .ok (.invokestatic 139, 3) := by decide +kernel
theorem dL_lays_500 : decode cL_lays 500 = .ok (.invokestatic 195, 3) := by decide +kernel
theorem dL_lays_503 : decode cL_lays 503 = .ok (.ifCond .ne 61, 3) := by decide +kernel
theorem dL_lays_506 : decode cL_lays 506 = .ok (.aload_n 0, 1) := by decide +kernel
theorem dL_lays_507 : decode cL_lays 507 = .ok (.iconst 2, 1) := by decide +kernel
theorem dL_lays_508 : decode cL_lays 508 = .ok (.iconst 5, 1) := by decide +kernel
theorem dL_lays_509 : decode cL_lays 509 = .ok (.iconst 0, 1) := by decide +kernel
theorem dL_lays_510 : decode cL_lays 510 = .ok (.iconst 0, 1) := by decide +kernel
theorem dL_lays_511 : decode cL_lays 511 = .ok (.invokestatic 139, 3) := by decide +kernel
theorem dL_lays_514 : decode cL_lays 514 = .ok (.iload 9, 2) := by decide +kernel
theorem dL_lays_516 : decode cL_lays 516 = .ok (.if_icmp .ne 48, 3) := by decide +kernel
theorem dL_lays_519 : decode cL_lays 519 = .ok (.aload_n 0, 1) := by decide +kernel
theorem dL_lays_520 : decode cL_lays 520 = .ok (.iconst 2, 1) := by decide +kernel
theorem dL_lays_521 : decode cL_lays 521 = .ok (.iconst 3, 1) := by decide +kernel
theorem dL_lays_522 : decode cL_lays 522 = .ok (.iconst 0, 1) := by decide +kernel
theorem dL_lays_523 : decode cL_lays 523 = .ok (.iconst 0, 1) := by decide +kernel
theorem dL_lays_524 : decode cL_lays 524 = .ok (.invokestatic 139, 3) := by decide +kernel
theorem dL_lays_527 : decode cL_lays 527 = .ok (.iload 7, 2) := by decide +kernel
theorem dL_lays_529 : decode cL_lays 529 = .ok (.if_icmp .ne 35, 3) := by decide +kernel
theorem dL_lays_532 : decode cL_lays 532 = .ok (.aload_n 0, 1) := by decide +kernel
theorem dL_lays_533 : decode cL_lays 533 = .ok (.iconst 5, 1) := by decide +kernel
theorem dL_lays_534 : decode cL_lays 534 = .ok (.iload 7, 2) := by decide +kernel
theorem dL_lays_536 : decode cL_lays 536 = .ok (.iconst 0, 1) := by decide +kernel
theorem dL_lays_537 : decode cL_lays 537 = .ok (.iconst 0, 1) := by decide +kernel
theorem dL_lays_538 : decode cL_lays 538 = .ok (.invokestatic 139, 3) := by decide +kernel
theorem dL_lays_541 : decode cL_lays 541 = .ok (.iload 11, 2) := by decide +kernel
theorem dL_lays_543 : decode cL_lays 543 = .ok (.if_icmp .ne 21, 3) := by decide +kernel
theorem dL_lays_546 : decode cL_lays 546 = .ok (.aload_n 0, 1) := by decide +kernel
theorem dL_lays_547 : decode cL_lays 547 = .ok (.bipush 11, 2) := by decide +kernel
theorem dL_lays_549 : decode cL_lays 549 = .ok (.iload_n 3, 1) := by decide +kernel
theorem dL_lays_550 : decode cL_lays 550 = .ok (.iconst 0, 1) := by decide +kernel
theorem dL_lays_551 : decode cL_lays 551 = .ok (.iconst 0, 1) := by decide +kernel
theorem dL_lays_552 : decode cL_lays 552 = .ok (.invokestatic 139, 3) := by decide +kernel
theorem dL_lays_555 : decode cL_lays 555 = .ok (.iload 6, 2) := by decide +kernel
theorem dL_lays_557 : decode cL_lays 557 = .ok (.if_icmp .ne 7, 3) := by decide +kernel
theorem dL_lays_560 : decode cL_lays 560 = .ok (.iconst 1, 1) := by decide +kernel
theorem dL_lays_561 : decode cL_lays 561 = .ok (.goto 4, 3) := by decide +kernel
theorem dL_lays_564 : decode cL_lays 564 = .ok (.iconst 0, 1) := by decide +kernel
theorem dL_lays_565 : decode cL_lays 565 = .ok (.ireturn, 1) := by decide +kernel
