/-! LINKED CODES: k_<method>_<label>, the instructions from a label to the next unconditional end; each is checked against the machine's decoding (printed by wip/whole/gen13.py) -/
-- 107: RavenSupperModel.<init>()V
def k_107_0 : List Instr := [.aload 0, .nop, .aload 0, .bipush (196), .anewarray 8, .putstatic 700, .aload 0, .bipush (196), .anewarray 8, .putstatic 701, .aload 0, .bipush (392), .anewarray 8, .putstatic 702, .aload 0, .bipush (2), .anewarray 9, .putstatic 703, .aload 0, .bipush (3), .anewarray 8, .putstatic 704, .aload 0, .bipush (150), .anewarray 8, .putstatic 705, .aload 0, .bipush (6), .anewarray 8, .putstatic 707, .aload 0, .bipush (6), .anewarray 8, .putstatic 708, .aload 0, .bipush (3), .anewarray 8, .putstatic 713, .aload 0, .getstatic 700, .bipush (4), .invokeinterface 133 128, .return_]
theorem k_107_0_ok : okc 107 0 k_107_0 = true := by decide +kernel
-- 125: RavenSupperModel.in(III)Z
def k_125_0 : List Instr := [.iload 0, .iload 1, .if_icmp .lt (14), .iload 0, .iload 2, .if_icmp .gt (14), .bipush (1), .goto (15)]
def k_125_14 : List Instr := [.bipush (0), .freturn]
def k_125_15 : List Instr := [.freturn]
theorem k_125_0_ok : okc 125 0 k_125_0 = true := by decide +kernel
theorem k_125_14_ok : okc 125 14 k_125_14 = true := by decide +kernel
theorem k_125_15_ok : okc 125 15 k_125_15 = true := by decide +kernel
-- 126: RavenSupperModel.has(II)Z
def k_126_0 : List Instr := [.iload 0, .iload 1, .ishr, .bipush (1), .iand, .bipush (1), .if_icmp .ne (13), .bipush (1), .goto (14)]
def k_126_13 : List Instr := [.bipush (0), .freturn]
def k_126_14 : List Instr := [.freturn]
theorem k_126_0_ok : okc 126 0 k_126_0 = true := by decide +kernel
theorem k_126_13_ok : okc 126 13 k_126_13 = true := by decide +kernel
theorem k_126_14_ok : okc 126 14 k_126_14 = true := by decide +kernel
-- 127: RavenSupperModel.most(II)I
def k_127_0 : List Instr := [.iload 0, .iload 1, .if_icmp .le (9), .iload 0, .goto (10)]
def k_127_9 : List Instr := [.iload 1, .ireturn]
def k_127_10 : List Instr := [.ireturn]
theorem k_127_0_ok : okc 127 0 k_127_0 = true := by decide +kernel
theorem k_127_9_ok : okc 127 9 k_127_9 = true := by decide +kernel
theorem k_127_10_ok : okc 127 10 k_127_10 = true := by decide +kernel
-- 128: RavenSupperModel.bad()I
def k_128_0 : List Instr := [.aload 0, .getstatic 704, .bipush (0), .dup2, .iaload, .bipush (1), .iadd, .iastore, .bipush (-2), .ireturn]
theorem k_128_0_ok : okc 128 0 k_128_0 = true := by decide +kernel
-- 129: RavenSupperModel.badAs(I)I
def k_129_0 : List Instr := [.aload 0, .getstatic 704, .bipush (0), .dup2, .iaload, .bipush (1), .iadd, .iastore, .iload 1, .ireturn]
theorem k_129_0_ok : okc 129 0 k_129_0 = true := by decide +kernel
-- 130: RavenSupperModel.no()I
def k_130_0 : List Instr := [.aload 0, .getstatic 704, .bipush (1), .dup2, .iaload, .bipush (1), .iadd, .iastore, .bipush (-3), .ireturn]
theorem k_130_0_ok : okc 130 0 k_130_0 = true := by decide +kernel
-- 131: RavenSupperModel.full()I
def k_131_0 : List Instr := [.aload 0, .getstatic 704, .bipush (2), .dup2, .iaload, .bipush (1), .iadd, .iastore, .bipush (-4), .ireturn]
theorem k_131_0_ok : okc 131 0 k_131_0 = true := by decide +kernel
-- 132: RavenSupperModel.copies([II[II)V
def k_132_0 : List Instr := [.bipush (0), .istore 4, .iload 4, .bipush (196), .if_icmp .ge (29), .aload 2, .iload 3, .iload 4, .iadd, .aload 0, .iload 1, .iload 4, .iadd, .iaload, .iastore, .iinc 4 (1), .goto (3)]
def k_132_3 : List Instr := [.iload 4, .bipush (196), .if_icmp .ge (29), .aload 2, .iload 3, .iload 4, .iadd, .aload 0, .iload 1, .iload 4, .iadd, .iaload, .iastore, .iinc 4 (1), .goto (3)]
def k_132_29 : List Instr := [.return_]
theorem k_132_0_ok : okc 132 0 k_132_0 = true := by decide +kernel
theorem k_132_3_ok : okc 132 3 k_132_3 = true := by decide +kernel
theorem k_132_29_ok : okc 132 29 k_132_29 = true := by decide +kernel
-- 133: RavenSupperModel.anew([II)V
def k_133_0 : List Instr := [.bipush (0), .istore 2, .iload 2, .bipush (196), .if_icmp .ge (19), .aload 0, .iload 2, .bipush (0), .iastore, .iinc 2 (1), .goto (2)]
def k_133_2 : List Instr := [.iload 2, .bipush (196), .if_icmp .ge (19), .aload 0, .iload 2, .bipush (0), .iastore, .iinc 2 (1), .goto (2)]
def k_133_19 : List Instr := [.aload 0, .bipush (0), .iload 1, .iastore, .bipush (0), .istore 2, .iload 2, .bipush (6), .if_icmp .ge (68), .aload 0, .bipush (4), .bipush (3), .iload 2, .imul, .iadd, .bipush (0), .iadd, .bipush (8), .iastore, .aload 0, .bipush (4), .bipush (3), .iload 2, .imul, .iadd, .bipush (1), .iadd, .bipush (2), .iastore, .aload 0, .bipush (4), .bipush (3), .iload 2, .imul, .iadd, .bipush (2), .iadd, .bipush (2), .iastore, .iinc 2 (1), .goto (25)]
def k_133_25 : List Instr := [.iload 2, .bipush (6), .if_icmp .ge (68), .aload 0, .bipush (4), .bipush (3), .iload 2, .imul, .iadd, .bipush (0), .iadd, .bipush (8), .iastore, .aload 0, .bipush (4), .bipush (3), .iload 2, .imul, .iadd, .bipush (1), .iadd, .bipush (2), .iastore, .aload 0, .bipush (4), .bipush (3), .iload 2, .imul, .iadd, .bipush (2), .iadd, .bipush (2), .iastore, .iinc 2 (1), .goto (25)]
def k_133_68 : List Instr := [.bipush (0), .istore 2, .iload 2, .bipush (2), .if_icmp .ge (115), .aload 0, .bipush (58), .bipush (5), .iload 2, .imul, .iadd, .bipush (0), .iadd, .bipush (12), .iastore, .aload 0, .bipush (58), .bipush (5), .iload 2, .imul, .iadd, .bipush (1), .iadd, .bipush (4), .iastore, .aload 0, .bipush (58), .bipush (5), .iload 2, .imul, .iadd, .bipush (2), .iadd, .bipush (-1), .iastore, .iinc 2 (1), .goto (70)]
def k_133_70 : List Instr := [.iload 2, .bipush (2), .if_icmp .ge (115), .aload 0, .bipush (58), .bipush (5), .iload 2, .imul, .iadd, .bipush (0), .iadd, .bipush (12), .iastore, .aload 0, .bipush (58), .bipush (5), .iload 2, .imul, .iadd, .bipush (1), .iadd, .bipush (4), .iastore, .aload 0, .bipush (58), .bipush (5), .iload 2, .imul, .iadd, .bipush (2), .iadd, .bipush (-1), .iastore, .iinc 2 (1), .goto (70)]
def k_133_115 : List Instr := [.return_]
theorem k_133_0_ok : okc 133 0 k_133_0 = true := by decide +kernel
theorem k_133_2_ok : okc 133 2 k_133_2 = true := by decide +kernel
theorem k_133_19_ok : okc 133 19 k_133_19 = true := by decide +kernel
theorem k_133_25_ok : okc 133 25 k_133_25 = true := by decide +kernel
theorem k_133_68_ok : okc 133 68 k_133_68 = true := by decide +kernel
theorem k_133_70_ok : okc 133 70 k_133_70 = true := by decide +kernel
theorem k_133_115_ok : okc 133 115 k_133_115 = true := by decide +kernel
-- 134: RavenSupperModel.isLand([II)Z
def k_134_0 : List Instr := [.iload 1, .bipush (0), .aload 0, .bipush (0), .iaload, .bipush (1), .isub, .invokeinterface 125 192, .freturn]
theorem k_134_0_ok : okc 134 0 k_134_0 = true := by decide +kernel
-- 135: RavenSupperModel.isPart(I)Z
def k_135_0 : List Instr := [.iload 0, .bipush (0), .bipush (16), .invokeinterface 125 192, .freturn]
theorem k_135_0_ok : okc 135 0 k_135_0 = true := by decide +kernel
-- 136: RavenSupperModel.isBird(I)Z
def k_136_0 : List Instr := [.iload 0, .bipush (0), .bipush (1), .invokeinterface 125 192, .freturn]
theorem k_136_0_ok : okc 136 0 k_136_0 = true := by decide +kernel
-- 137: RavenSupperModel.areTwo([III)Z
def k_137_0 : List Instr := [.aload 0, .iload 1, .invokeinterface 134 128, .ifCond .eq (25), .aload 0, .iload 2, .invokeinterface 134 128, .ifCond .eq (25), .iload 1, .iload 2, .if_icmp .eq (25), .bipush (1), .goto (26)]
def k_137_25 : List Instr := [.bipush (0), .freturn]
def k_137_26 : List Instr := [.freturn]
theorem k_137_0_ok : okc 137 0 k_137_0 = true := by decide +kernel
theorem k_137_25_ok : okc 137 25 k_137_25 = true := by decide +kernel
theorem k_137_26_ok : okc 137 26 k_137_26 = true := by decide +kernel
-- 138: RavenSupperModel.mayBird(III)Z
def k_138_0 : List Instr := [.iload 0, .invokeinterface 136 64, .ifCond .eq (31), .iload 1, .bipush (0), .bipush (40), .invokeinterface 125 192, .ifCond .eq (31), .iload 2, .bipush (1), .bipush (9), .invokeinterface 125 192, .ifCond .eq (31), .bipush (1), .goto (32)]
def k_138_31 : List Instr := [.bipush (0), .freturn]
def k_138_32 : List Instr := [.freturn]
theorem k_138_0_ok : okc 138 0 k_138_0 = true := by decide +kernel
theorem k_138_31_ok : okc 138 31 k_138_31 = true := by decide +kernel
theorem k_138_32_ok : okc 138 32 k_138_32 = true := by decide +kernel
-- 139: RavenSupperModel.setBelief([III)V
def k_139_0 : List Instr := [.aload 0, .bipush (4), .bipush (3), .iload 1, .imul, .iadd, .bipush (0), .iadd, .iload 2, .iastore, .aload 0, .bipush (3), .bipush (0), .iastore, .return_]
theorem k_139_0_ok : okc 139 0 k_139_0 = true := by decide +kernel
-- 140: RavenSupperModel.setChange([IIII)V
def k_140_0 : List Instr := [.aload 0, .bipush (4), .bipush (3), .iload 1, .imul, .iadd, .bipush (1), .iadd, .iload 2, .iastore, .aload 0, .bipush (4), .bipush (3), .iload 1, .imul, .iadd, .bipush (2), .iadd, .iload 3, .iastore, .aload 0, .bipush (3), .bipush (0), .iastore, .return_]
theorem k_140_0_ok : okc 140 0 k_140_0 = true := by decide +kernel
-- 141: RavenSupperModel.silent([I)V
def k_141_0 : List Instr := [.bipush (0), .istore 1, .iload 1, .bipush (2), .if_icmp .ge (46), .aload 0, .bipush (58), .bipush (5), .iload 1, .imul, .iadd, .bipush (2), .iadd, .bipush (-1), .iastore, .aload 0, .bipush (58), .bipush (5), .iload 1, .imul, .iadd, .bipush (3), .iadd, .bipush (0), .iastore, .aload 0, .bipush (58), .bipush (5), .iload 1, .imul, .iadd, .bipush (4), .iadd, .bipush (0), .iastore, .iinc 1 (1), .goto (2)]
def k_141_2 : List Instr := [.iload 1, .bipush (2), .if_icmp .ge (46), .aload 0, .bipush (58), .bipush (5), .iload 1, .imul, .iadd, .bipush (2), .iadd, .bipush (-1), .iastore, .aload 0, .bipush (58), .bipush (5), .iload 1, .imul, .iadd, .bipush (3), .iadd, .bipush (0), .iastore, .aload 0, .bipush (58), .bipush (5), .iload 1, .imul, .iadd, .bipush (4), .iadd, .bipush (0), .iastore, .iinc 1 (1), .goto (2)]
def k_141_46 : List Instr := [.aload 0, .bipush (3), .bipush (0), .iastore, .return_]
theorem k_141_0_ok : okc 141 0 k_141_0 = true := by decide +kernel
theorem k_141_2_ok : okc 141 2 k_141_2 = true := by decide +kernel
theorem k_141_46_ok : okc 141 46 k_141_46 = true := by decide +kernel
-- 142: RavenSupperModel.setWay([IIII)V
def k_142_0 : List Instr := [.aload 0, .bipush (22), .bipush (6), .iload 1, .imul, .iadd, .iload 2, .iadd, .iload 3, .iastore, .aload 0, .bipush (22), .bipush (6), .iload 2, .imul, .iadd, .iload 1, .iadd, .iload 3, .iastore, .aload 0, .invokeinterface 141 64, .return_]
theorem k_142_0_ok : okc 142 0 k_142_0 = true := by decide +kernel
-- 143: RavenSupperModel.setBird([IIII)V
def k_143_0 : List Instr := [.aload 0, .bipush (58), .bipush (5), .iload 1, .imul, .iadd, .bipush (0), .iadd, .iload 2, .iastore, .aload 0, .bipush (58), .bipush (5), .iload 1, .imul, .iadd, .bipush (1), .iadd, .iload 3, .iastore, .aload 0, .invokeinterface 141 64, .return_]
theorem k_143_0_ok : okc 143 0 k_143_0 = true := by decide +kernel
-- 144: RavenSupperModel.world(I)I
def k_144_0 : List Instr := [.iload 1, .bipush (1), .bipush (6), .invokeinterface 125 192, .ifCond .ne (15), .aload 0, .invokeinterface 128 87, .ireturn]
def k_144_15 : List Instr := [.aload 0, .getstatic 700, .bipush (0), .iaload, .istore 2, .aload 0, .getstatic 700, .iload 1, .invokeinterface 133 128, .iload 2, .ireturn]
theorem k_144_0_ok : okc 144 0 k_144_0 = true := by decide +kernel
theorem k_144_15_ok : okc 144 15 k_144_15 = true := by decide +kernel
-- 145: RavenSupperModel.belief(II)I
def k_145_0 : List Instr := [.aload 0, .getstatic 700, .iload 1, .invokeinterface 134 128, .ifCond .eq (18), .iload 2, .invokeinterface 135 64, .ifCond .ne (23), .aload 0, .invokeinterface 128 87, .ireturn]
def k_145_18 : List Instr := [.aload 0, .invokeinterface 128 87, .ireturn]
def k_145_23 : List Instr := [.aload 0, .getstatic 700, .bipush (4), .bipush (3), .iload 1, .imul, .iadd, .bipush (0), .iadd, .iaload, .istore 3, .aload 0, .getstatic 700, .iload 1, .iload 2, .invokeinterface 139 192, .iload 3, .ireturn]
theorem k_145_0_ok : okc 145 0 k_145_0 = true := by decide +kernel
theorem k_145_18_ok : okc 145 18 k_145_18 = true := by decide +kernel
theorem k_145_23_ok : okc 145 23 k_145_23 = true := by decide +kernel
-- 146: RavenSupperModel.change(III)I
def k_146_0 : List Instr := [.aload 0, .getstatic 700, .iload 1, .invokeinterface 134 128, .ifCond .eq (25), .iload 2, .invokeinterface 135 64, .ifCond .eq (25), .iload 3, .invokeinterface 135 64, .ifCond .ne (30), .aload 0, .invokeinterface 128 87, .ireturn]
def k_146_25 : List Instr := [.aload 0, .invokeinterface 128 87, .ireturn]
def k_146_30 : List Instr := [.bipush (100), .aload 0, .getstatic 700, .bipush (4), .bipush (3), .iload 1, .imul, .iadd, .bipush (1), .iadd, .iaload, .imul, .aload 0, .getstatic 700, .bipush (4), .bipush (3), .iload 1, .imul, .iadd, .bipush (2), .iadd, .iaload, .iadd, .istore 4, .aload 0, .getstatic 700, .iload 1, .iload 2, .iload 3, .invokeinterface 140 256, .iload 4, .ireturn]
theorem k_146_0_ok : okc 146 0 k_146_0 = true := by decide +kernel
theorem k_146_25_ok : okc 146 25 k_146_25 = true := by decide +kernel
theorem k_146_30_ok : okc 146 30 k_146_30 = true := by decide +kernel
-- 147: RavenSupperModel.way(III)I
def k_147_0 : List Instr := [.aload 0, .getstatic 700, .iload 1, .iload 2, .invokeinterface 137 192, .ifCond .eq (22), .iload 3, .bipush (0), .bipush (9), .invokeinterface 125 192, .ifCond .ne (27), .aload 0, .invokeinterface 128 87, .ireturn]
def k_147_22 : List Instr := [.aload 0, .invokeinterface 128 87, .ireturn]
def k_147_27 : List Instr := [.aload 0, .getstatic 700, .bipush (22), .bipush (6), .iload 1, .imul, .iadd, .iload 2, .iadd, .iaload, .istore 4, .aload 0, .getstatic 700, .iload 1, .iload 2, .iload 3, .invokeinterface 142 256, .iload 4, .ireturn]
theorem k_147_0_ok : okc 147 0 k_147_0 = true := by decide +kernel
theorem k_147_22_ok : okc 147 22 k_147_22 = true := by decide +kernel
theorem k_147_27_ok : okc 147 27 k_147_27 = true := by decide +kernel
-- 148: RavenSupperModel.bird(III)I
def k_148_0 : List Instr := [.iload 1, .iload 2, .iload 3, .invokeinterface 138 192, .ifCond .ne (14), .aload 0, .invokeinterface 128 87, .ireturn]
def k_148_14 : List Instr := [.aload 0, .getstatic 700, .bipush (58), .bipush (5), .iload 1, .imul, .iadd, .bipush (0), .iadd, .iaload, .istore 4, .aload 0, .getstatic 700, .iload 1, .iload 2, .iload 3, .invokeinterface 143 256, .iload 4, .ireturn]
theorem k_148_0_ok : okc 148 0 k_148_0 = true := by decide +kernel
theorem k_148_14_ok : okc 148 14 k_148_14 = true := by decide +kernel
-- 149: RavenSupperModel.type(I)I
def k_149_0 : List Instr := [.iload 1, .bipush (0), .bipush (127), .invokeinterface 125 192, .ifCond .ne (15), .aload 0, .invokeinterface 128 87, .ireturn]
def k_149_15 : List Instr := [.aload 0, .getfield 706, .bipush (150), .if_icmp .ne (30), .aload 0, .invokeinterface 131 87, .ireturn]
def k_149_30 : List Instr := [.aload 0, .getstatic 705, .aload 0, .getfield 706, .iload 1, .iastore, .aload 0, .dup, .getfield 706, .bipush (1), .iadd, .putfield 706, .aload 0, .getfield 706, .ireturn]
theorem k_149_0_ok : okc 149 0 k_149_0 = true := by decide +kernel
theorem k_149_15_ok : okc 149 15 k_149_15 = true := by decide +kernel
theorem k_149_30_ok : okc 149 30 k_149_30 = true := by decide +kernel
-- 150: RavenSupperModel.clear()I
def k_150_0 : List Instr := [.aload 0, .getfield 706, .istore 1, .aload 0, .bipush (0), .putfield 706, .iload 1, .ireturn]
theorem k_150_0_ok : okc 150 0 k_150_0 = true := by decide +kernel
-- 151: RavenSupperModel.byteAt(I)I
def k_151_0 : List Instr := [.iload 1, .aload 0, .getfield 706, .if_icmp .ge (17), .aload 0, .getstatic 705, .iload 1, .iaload, .goto (18)]
def k_151_17 : List Instr := [.bipush (-1), .ireturn]
def k_151_18 : List Instr := [.ireturn]
theorem k_151_0_ok : okc 151 0 k_151_0 = true := by decide +kernel
theorem k_151_17_ok : okc 151 17 k_151_17 = true := by decide +kernel
theorem k_151_18_ok : okc 151 18 k_151_18 = true := by decide +kernel
-- 152: RavenSupperModel.sortOf(I)I
def k_152_0 : List Instr := [.iload 0, .ifCond .ge (8), .bipush (0), .goto (49)]
def k_152_8 : List Instr := [.iload 0, .bipush (97), .bipush (122), .invokeinterface 125 192, .ifCond .eq (23), .bipush (1), .goto (49)]
def k_152_23 : List Instr := [.iload 0, .bipush (48), .bipush (57), .invokeinterface 125 192, .ifCond .eq (38), .bipush (2), .goto (49)]
def k_152_38 : List Instr := [.iload 0, .bipush (59), .if_icmp .ne (48), .bipush (3), .goto (49)]
def k_152_48 : List Instr := [.bipush (4), .ireturn]
def k_152_49 : List Instr := [.ireturn]
theorem k_152_0_ok : okc 152 0 k_152_0 = true := by decide +kernel
theorem k_152_8_ok : okc 152 8 k_152_8 = true := by decide +kernel
theorem k_152_23_ok : okc 152 23 k_152_23 = true := by decide +kernel
theorem k_152_38_ok : okc 152 38 k_152_38 = true := by decide +kernel
theorem k_152_48_ok : okc 152 48 k_152_48 = true := by decide +kernel
theorem k_152_49_ok : okc 152 49 k_152_49 = true := by decide +kernel
-- 153: RavenSupperModel.token()V
def k_153_0 : List Instr := [.aload 0, .aload 0, .getfield 709, .invokeinterface 151 151, .bipush (32), .if_icmp .ne (26), .aload 0, .dup, .getfield 709, .bipush (1), .iadd, .putfield 709, .goto (0)]
def k_153_26 : List Instr := [.aload 0, .aload 0, .getfield 709, .putfield 710, .aload 0, .bipush (0), .putfield 711, .aload 0, .aload 0, .aload 0, .getfield 709, .invokeinterface 151 151, .invokeinterface 152 64, .putfield 712, .aload 0, .getfield 712, .ifCond .eq (125), .aload 0, .getfield 711, .ifCond .eq (102), .aload 0, .getfield 712, .bipush (1), .if_icmp .eq (84), .aload 0, .getfield 712, .bipush (2), .if_icmp .ne (125), .aload 0, .aload 0, .getfield 709, .invokeinterface 151 151, .invokeinterface 152 64, .aload 0, .getfield 712, .if_icmp .ne (125), .aload 0, .dup, .getfield 709, .bipush (1), .iadd, .putfield 709, .aload 0, .dup, .getfield 711, .bipush (1), .iadd, .putfield 711, .goto (54)]
def k_153_54 : List Instr := [.aload 0, .getfield 712, .ifCond .eq (125), .aload 0, .getfield 711, .ifCond .eq (102), .aload 0, .getfield 712, .bipush (1), .if_icmp .eq (84), .aload 0, .getfield 712, .bipush (2), .if_icmp .ne (125), .aload 0, .aload 0, .getfield 709, .invokeinterface 151 151, .invokeinterface 152 64, .aload 0, .getfield 712, .if_icmp .ne (125), .aload 0, .dup, .getfield 709, .bipush (1), .iadd, .putfield 709, .aload 0, .dup, .getfield 711, .bipush (1), .iadd, .putfield 711, .goto (54)]
def k_153_84 : List Instr := [.aload 0, .aload 0, .getfield 709, .invokeinterface 151 151, .invokeinterface 152 64, .aload 0, .getfield 712, .if_icmp .ne (125), .aload 0, .dup, .getfield 709, .bipush (1), .iadd, .putfield 709, .aload 0, .dup, .getfield 711, .bipush (1), .iadd, .putfield 711, .goto (54)]
def k_153_102 : List Instr := [.aload 0, .dup, .getfield 709, .bipush (1), .iadd, .putfield 709, .aload 0, .dup, .getfield 711, .bipush (1), .iadd, .putfield 711, .goto (54)]
def k_153_125 : List Instr := [.return_]
theorem k_153_0_ok : okc 153 0 k_153_0 = true := by decide +kernel
theorem k_153_26_ok : okc 153 26 k_153_26 = true := by decide +kernel
theorem k_153_54_ok : okc 153 54 k_153_54 = true := by decide +kernel
theorem k_153_84_ok : okc 153 84 k_153_84 = true := by decide +kernel
theorem k_153_102_ok : okc 153 102 k_153_102 = true := by decide +kernel
theorem k_153_125_ok : okc 153 125 k_153_125 = true := by decide +kernel
-- 154: RavenSupperModel.name(IIIIII)J
def k_154_0 : List Instr := [.sipush (27), .sipush (27), .iload 0, .i2l, .lmul, .iload 1, .i2l, .ladd, .lmul, .iload 2, .i2l, .ladd, .lstore 6, .iload 3, .ifCond .ne (27), .lload 6, .goto (36)]
def k_154_27 : List Instr := [.sipush (27), .lload 6, .lmul, .iload 3, .i2l, .ladd, .lstore 6, .iload 4, .ifCond .ne (48), .lload 6, .goto (58)]
def k_154_36 : List Instr := [.lstore 6, .iload 4, .ifCond .ne (48), .lload 6, .goto (58)]
def k_154_48 : List Instr := [.sipush (27), .lload 6, .lmul, .iload 4, .i2l, .ladd, .lstore 6, .iload 5, .ifCond .ne (70), .lload 6, .goto (80)]
def k_154_58 : List Instr := [.lstore 6, .iload 5, .ifCond .ne (70), .lload 6, .goto (80)]
def k_154_70 : List Instr := [.sipush (27), .lload 6, .lmul, .iload 5, .i2l, .ladd, .lreturn]
def k_154_80 : List Instr := [.lreturn]
theorem k_154_0_ok : okc 154 0 k_154_0 = true := by decide +kernel
theorem k_154_27_ok : okc 154 27 k_154_27 = true := by decide +kernel
theorem k_154_36_ok : okc 154 36 k_154_36 = true := by decide +kernel
theorem k_154_48_ok : okc 154 48 k_154_48 = true := by decide +kernel
theorem k_154_58_ok : okc 154 58 k_154_58 = true := by decide +kernel
theorem k_154_70_ok : okc 154 70 k_154_70 = true := by decide +kernel
theorem k_154_80_ok : okc 154 80 k_154_80 = true := by decide +kernel
-- 155: RavenSupperModel.item()I
def k_155_0 : List Instr := [.sipush (0), .lstore 1, .bipush (0), .istore 3, .iload 3, .aload 0, .getfield 711, .if_icmp .ge (57), .aload 0, .getfield 711, .bipush (7), .if_icmp .ge (57), .aload 0, .getfield 712, .bipush (1), .if_icmp .ne (57), .sipush (27), .lload 1, .lmul, .aload 0, .aload 0, .getfield 710, .iload 3, .iadd, .invokeinterface 151 151, .i2l, .ladd, .sipush (96), .lsub, .lstore 1, .iinc 3 (1), .goto (4)]
def k_155_4 : List Instr := [.iload 3, .aload 0, .getfield 711, .if_icmp .ge (57), .aload 0, .getfield 711, .bipush (7), .if_icmp .ge (57), .aload 0, .getfield 712, .bipush (1), .if_icmp .ne (57), .sipush (27), .lload 1, .lmul, .aload 0, .aload 0, .getfield 710, .iload 3, .iadd, .invokeinterface 151 151, .i2l, .ladd, .sipush (96), .lsub, .lstore 1, .iinc 3 (1), .goto (4)]
def k_155_57 : List Instr := [.lload 1, .bipush (23), .bipush (15), .bipush (18), .bipush (12), .bipush (4), .bipush (0), .invokeinterface 154 384, .lcmp, .ifCond .ne (79), .bipush (0), .goto (122)]
def k_155_79 : List Instr := [.lload 1, .bipush (2), .bipush (5), .bipush (12), .bipush (9), .bipush (5), .bipush (6), .invokeinterface 154 384, .lcmp, .ifCond .ne (100), .bipush (1), .goto (122)]
def k_155_100 : List Instr := [.lload 1, .bipush (3), .bipush (8), .bipush (1), .bipush (14), .bipush (7), .bipush (5), .invokeinterface 154 384, .lcmp, .ifCond .ne (121), .bipush (2), .goto (122)]
def k_155_121 : List Instr := [.bipush (-1), .istore 3, .lload 1, .bipush (23), .bipush (1), .bipush (25), .bipush (0), .bipush (0), .bipush (0), .invokeinterface 154 384, .lcmp, .ifCond .ne (143), .bipush (3), .goto (164)]
def k_155_122 : List Instr := [.istore 3, .lload 1, .bipush (23), .bipush (1), .bipush (25), .bipush (0), .bipush (0), .bipush (0), .invokeinterface 154 384, .lcmp, .ifCond .ne (143), .bipush (3), .goto (164)]
def k_155_143 : List Instr := [.lload 1, .bipush (2), .bipush (9), .bipush (18), .bipush (4), .bipush (0), .bipush (0), .invokeinterface 154 384, .lcmp, .ifCond .ne (163), .bipush (4), .goto (164)]
def k_155_163 : List Instr := [.iload 3, .ireturn]
def k_155_164 : List Instr := [.ireturn]
theorem k_155_0_ok : okc 155 0 k_155_0 = true := by decide +kernel
theorem k_155_4_ok : okc 155 4 k_155_4 = true := by decide +kernel
theorem k_155_57_ok : okc 155 57 k_155_57 = true := by decide +kernel
theorem k_155_79_ok : okc 155 79 k_155_79 = true := by decide +kernel
theorem k_155_100_ok : okc 155 100 k_155_100 = true := by decide +kernel
theorem k_155_121_ok : okc 155 121 k_155_121 = true := by decide +kernel
theorem k_155_122_ok : okc 155 122 k_155_122 = true := by decide +kernel
theorem k_155_143_ok : okc 155 143 k_155_143 = true := by decide +kernel
theorem k_155_163_ok : okc 155 163 k_155_163 = true := by decide +kernel
theorem k_155_164_ok : okc 155 164 k_155_164 = true := by decide +kernel
-- 156: RavenSupperModel.numbers(I)I
def k_156_0 : List Instr := [.iload 0, .ifCond .ne (8), .bipush (1), .goto (18)]
def k_156_8 : List Instr := [.iload 0, .bipush (1), .if_icmp .ne (17), .bipush (2), .goto (18)]
def k_156_17 : List Instr := [.bipush (3), .ireturn]
def k_156_18 : List Instr := [.ireturn]
theorem k_156_0_ok : okc 156 0 k_156_0 = true := by decide +kernel
theorem k_156_8_ok : okc 156 8 k_156_8 = true := by decide +kernel
theorem k_156_17_ok : okc 156 17 k_156_17 = true := by decide +kernel
theorem k_156_18_ok : okc 156 18 k_156_18 = true := by decide +kernel
-- 157: RavenSupperModel.readsNumbers(I)Z
def k_157_0 : List Instr := [.bipush (0), .istore 2, .iload 2, .iload 1, .if_icmp .ge (83), .aload 0, .invokeinterface 153 87, .aload 0, .getfield 712, .bipush (2), .if_icmp .ne (27), .aload 0, .getfield 711, .bipush (2), .if_icmp .le (29), .bipush (0), .freturn]
def k_157_2 : List Instr := [.iload 2, .iload 1, .if_icmp .ge (83), .aload 0, .invokeinterface 153 87, .aload 0, .getfield 712, .bipush (2), .if_icmp .ne (27), .aload 0, .getfield 711, .bipush (2), .if_icmp .le (29), .bipush (0), .freturn]
def k_157_27 : List Instr := [.bipush (0), .freturn]
def k_157_29 : List Instr := [.aload 0, .aload 0, .getfield 710, .invokeinterface 151 151, .bipush (48), .isub, .istore 3, .aload 0, .getstatic 713, .iload 2, .aload 0, .getfield 711, .bipush (1), .if_icmp .ne (58), .iload 3, .goto (76)]
def k_157_58 : List Instr := [.bipush (10), .iload 3, .imul, .aload 0, .aload 0, .getfield 710, .bipush (1), .iadd, .invokeinterface 151 151, .iadd, .bipush (48), .isub, .iastore, .iinc 2 (1), .goto (2)]
def k_157_76 : List Instr := [.iastore, .iinc 2 (1), .goto (2)]
def k_157_83 : List Instr := [.aload 0, .invokeinterface 153 87, .aload 0, .getfield 712, .bipush (3), .if_icmp .ne (99), .bipush (1), .goto (100)]
def k_157_99 : List Instr := [.bipush (0), .freturn]
def k_157_100 : List Instr := [.freturn]
theorem k_157_0_ok : okc 157 0 k_157_0 = true := by decide +kernel
theorem k_157_2_ok : okc 157 2 k_157_2 = true := by decide +kernel
theorem k_157_27_ok : okc 157 27 k_157_27 = true := by decide +kernel
theorem k_157_29_ok : okc 157 29 k_157_29 = true := by decide +kernel
theorem k_157_58_ok : okc 157 58 k_157_58 = true := by decide +kernel
theorem k_157_76_ok : okc 157 76 k_157_76 = true := by decide +kernel
theorem k_157_83_ok : okc 157 83 k_157_83 = true := by decide +kernel
theorem k_157_99_ok : okc 157 99 k_157_99 = true := by decide +kernel
theorem k_157_100_ok : okc 157 100 k_157_100 = true := by decide +kernel
-- 158: RavenSupperModel.does(I)Z
def k_158_0 : List Instr := [.aload 0, .getstatic 713, .bipush (0), .iaload, .istore 2, .aload 0, .getstatic 713, .bipush (1), .iaload, .istore 3, .aload 0, .getstatic 713, .bipush (2), .iaload, .istore 4, .iload 1, .tableswitch 161 (0) (3) #[52, 64, 92, 128]]
def k_158_52 : List Instr := [.iload 2, .bipush (1), .bipush (6), .invokeinterface 125 192, .istore 5, .goto (170)]
def k_158_64 : List Instr := [.aload 0, .getstatic 701, .iload 2, .invokeinterface 134 128, .ifCond .eq (86), .iload 3, .invokeinterface 135 64, .ifCond .eq (86), .bipush (1), .goto (87)]
def k_158_86 : List Instr := [.bipush (0), .istore 5, .goto (170)]
def k_158_87 : List Instr := [.istore 5, .goto (170)]
def k_158_92 : List Instr := [.aload 0, .getstatic 701, .iload 2, .invokeinterface 134 128, .ifCond .eq (122), .iload 3, .invokeinterface 135 64, .ifCond .eq (122), .iload 4, .invokeinterface 135 64, .ifCond .eq (122), .bipush (1), .goto (123)]
def k_158_122 : List Instr := [.bipush (0), .istore 5, .goto (170)]
def k_158_123 : List Instr := [.istore 5, .goto (170)]
def k_158_128 : List Instr := [.aload 0, .getstatic 701, .iload 2, .iload 3, .invokeinterface 137 192, .ifCond .eq (155), .iload 4, .bipush (0), .bipush (9), .invokeinterface 125 192, .ifCond .eq (155), .bipush (1), .goto (156)]
def k_158_155 : List Instr := [.bipush (0), .istore 5, .goto (170)]
def k_158_156 : List Instr := [.istore 5, .goto (170)]
def k_158_161 : List Instr := [.iload 2, .iload 3, .iload 4, .invokeinterface 138 192, .istore 5, .iload 5, .ifCond .ne (177), .bipush (0), .freturn]
def k_158_170 : List Instr := [.iload 5, .ifCond .ne (177), .bipush (0), .freturn]
def k_158_177 : List Instr := [.iload 1, .ifCond .ne (192), .aload 0, .getstatic 701, .iload 2, .invokeinterface 133 128, .goto (258)]
def k_158_192 : List Instr := [.iload 1, .bipush (1), .if_icmp .ne (209), .aload 0, .getstatic 701, .iload 2, .iload 3, .invokeinterface 139 192, .goto (258)]
def k_158_209 : List Instr := [.iload 1, .bipush (2), .if_icmp .ne (228), .aload 0, .getstatic 701, .iload 2, .iload 3, .iload 4, .invokeinterface 140 256, .goto (258)]
def k_158_228 : List Instr := [.iload 1, .bipush (3), .if_icmp .ne (247), .aload 0, .getstatic 701, .iload 2, .iload 3, .iload 4, .invokeinterface 142 256, .goto (258)]
def k_158_247 : List Instr := [.aload 0, .getstatic 701, .iload 2, .iload 3, .iload 4, .invokeinterface 143 256, .bipush (1), .freturn]
def k_158_258 : List Instr := [.bipush (1), .freturn]
theorem k_158_0_ok : okc 158 0 k_158_0 = true := by decide +kernel
theorem k_158_52_ok : okc 158 52 k_158_52 = true := by decide +kernel
theorem k_158_64_ok : okc 158 64 k_158_64 = true := by decide +kernel
theorem k_158_86_ok : okc 158 86 k_158_86 = true := by decide +kernel
theorem k_158_87_ok : okc 158 87 k_158_87 = true := by decide +kernel
theorem k_158_92_ok : okc 158 92 k_158_92 = true := by decide +kernel
theorem k_158_122_ok : okc 158 122 k_158_122 = true := by decide +kernel
theorem k_158_123_ok : okc 158 123 k_158_123 = true := by decide +kernel
theorem k_158_128_ok : okc 158 128 k_158_128 = true := by decide +kernel
theorem k_158_155_ok : okc 158 155 k_158_155 = true := by decide +kernel
theorem k_158_156_ok : okc 158 156 k_158_156 = true := by decide +kernel
theorem k_158_161_ok : okc 158 161 k_158_161 = true := by decide +kernel
theorem k_158_170_ok : okc 158 170 k_158_170 = true := by decide +kernel
theorem k_158_177_ok : okc 158 177 k_158_177 = true := by decide +kernel
theorem k_158_192_ok : okc 158 192 k_158_192 = true := by decide +kernel
theorem k_158_209_ok : okc 158 209 k_158_209 = true := by decide +kernel
theorem k_158_228_ok : okc 158 228 k_158_228 = true := by decide +kernel
theorem k_158_247_ok : okc 158 247 k_158_247 = true := by decide +kernel
theorem k_158_258_ok : okc 158 258 k_158_258 = true := by decide +kernel
-- 159: RavenSupperModel.reads()I
def k_159_0 : List Instr := [.aload 0, .getstatic 701, .bipush (1), .invokeinterface 133 128, .aload 0, .bipush (-1), .putfield 714, .aload 0, .bipush (0), .putfield 709, .bipush (0), .istore 1, .aload 0, .invokeinterface 153 87, .aload 0, .getfield 712, .ifCond .ne (35), .iload 1, .ifCond .ne (110), .aload 0, .invokeinterface 155 87, .istore 2, .iload 2, .bipush (-1), .if_icmp .eq (77), .iload 2, .ifCond .ne (53), .bipush (1), .goto (54)]
def k_159_24 : List Instr := [.aload 0, .getfield 712, .ifCond .ne (35), .iload 1, .ifCond .ne (110), .aload 0, .invokeinterface 155 87, .istore 2, .iload 2, .bipush (-1), .if_icmp .eq (77), .iload 2, .ifCond .ne (53), .bipush (1), .goto (54)]
def k_159_35 : List Instr := [.aload 0, .invokeinterface 155 87, .istore 2, .iload 2, .bipush (-1), .if_icmp .eq (77), .iload 2, .ifCond .ne (53), .bipush (1), .goto (54)]
def k_159_53 : List Instr := [.bipush (0), .iload 1, .ifCond .ne (62), .bipush (1), .goto (63)]
def k_159_54 : List Instr := [.iload 1, .ifCond .ne (62), .bipush (1), .goto (63)]
def k_159_62 : List Instr := [.bipush (0), .if_icmp .ne (77), .aload 0, .iload 2, .invokeinterface 156 64, .invokeinterface 157 151, .ifCond .ne (79), .bipush (-1), .ireturn]
def k_159_63 : List Instr := [.if_icmp .ne (77), .aload 0, .iload 2, .invokeinterface 156 64, .invokeinterface 157 151, .ifCond .ne (79), .bipush (-1), .ireturn]
def k_159_77 : List Instr := [.bipush (-1), .ireturn]
def k_159_79 : List Instr := [.aload 0, .getfield 714, .bipush (-1), .if_icmp .ne (100), .aload 0, .iload 2, .invokeinterface 158 151, .ifCond .ne (100), .aload 0, .iload 1, .putfield 714, .iinc 1 (1), .aload 0, .invokeinterface 153 87, .goto (24)]
def k_159_100 : List Instr := [.iinc 1 (1), .aload 0, .invokeinterface 153 87, .goto (24)]
def k_159_110 : List Instr := [.iload 1, .ireturn]
theorem k_159_0_ok : okc 159 0 k_159_0 = true := by decide +kernel
theorem k_159_24_ok : okc 159 24 k_159_24 = true := by decide +kernel
theorem k_159_35_ok : okc 159 35 k_159_35 = true := by decide +kernel
theorem k_159_53_ok : okc 159 53 k_159_53 = true := by decide +kernel
theorem k_159_54_ok : okc 159 54 k_159_54 = true := by decide +kernel
theorem k_159_62_ok : okc 159 62 k_159_62 = true := by decide +kernel
theorem k_159_63_ok : okc 159 63 k_159_63 = true := by decide +kernel
theorem k_159_77_ok : okc 159 77 k_159_77 = true := by decide +kernel
theorem k_159_79_ok : okc 159 79 k_159_79 = true := by decide +kernel
theorem k_159_100_ok : okc 159 100 k_159_100 = true := by decide +kernel
theorem k_159_110_ok : okc 159 110 k_159_110 = true := by decide +kernel
-- 160: RavenSupperModel.read()I
def k_160_0 : List Instr := [.aload 0, .invokeinterface 159 87, .istore 1, .iload 1, .bipush (-1), .if_icmp .ne (18), .bipush (-10), .aload 0, .getfield 710, .isub, .ireturn]
def k_160_18 : List Instr := [.aload 0, .getfield 714, .bipush (-1), .if_icmp .eq (35), .bipush (-1000), .aload 0, .getfield 714, .isub, .ireturn]
def k_160_35 : List Instr := [.aload 0, .getstatic 701, .bipush (0), .aload 0, .getstatic 700, .bipush (0), .invokeinterface 132 256, .iload 1, .ireturn]
theorem k_160_0_ok : okc 160 0 k_160_0 = true := by decide +kernel
theorem k_160_18_ok : okc 160 18 k_160_18 = true := by decide +kernel
theorem k_160_35_ok : okc 160 35 k_160_35 = true := by decide +kernel
-- 161: RavenSupperModel.findFar()V
def k_161_0 : List Instr := [.bipush (0), .istore 1, .iload 1, .bipush (6), .if_icmp .ge (29), .aload 0, .getstatic 708, .iload 1, .iload 1, .ifCond .ne (21), .bipush (0), .goto (22)]
def k_161_2 : List Instr := [.iload 1, .bipush (6), .if_icmp .ge (29), .aload 0, .getstatic 708, .iload 1, .iload 1, .ifCond .ne (21), .bipush (0), .goto (22)]
def k_161_21 : List Instr := [.bipush (-1), .iastore, .iinc 1 (1), .goto (2)]
def k_161_22 : List Instr := [.iastore, .iinc 1 (1), .goto (2)]
def k_161_29 : List Instr := [.bipush (0), .istore 1, .iload 1, .bipush (6), .if_icmp .ge (174), .bipush (0), .istore 2, .iload 2, .aload 0, .getstatic 700, .bipush (0), .iaload, .if_icmp .ge (168), .bipush (0), .istore 3, .iload 3, .aload 0, .getstatic 700, .bipush (0), .iaload, .if_icmp .ge (162), .aload 0, .getstatic 700, .bipush (22), .bipush (6), .iload 2, .imul, .iadd, .iload 3, .iadd, .iaload, .istore 4, .iload 4, .ifCond .le (124), .aload 0, .getstatic 708, .iload 2, .iaload, .bipush (-1), .if_icmp .eq (124), .aload 0, .getstatic 708, .iload 3, .iaload, .bipush (-1), .if_icmp .eq (120), .aload 0, .getstatic 708, .iload 2, .iaload, .iload 4, .iadd, .aload 0, .getstatic 708, .iload 3, .iaload, .if_icmp .ge (124), .bipush (1), .goto (125)]
def k_161_31 : List Instr := [.iload 1, .bipush (6), .if_icmp .ge (174), .bipush (0), .istore 2, .iload 2, .aload 0, .getstatic 700, .bipush (0), .iaload, .if_icmp .ge (168), .bipush (0), .istore 3, .iload 3, .aload 0, .getstatic 700, .bipush (0), .iaload, .if_icmp .ge (162), .aload 0, .getstatic 700, .bipush (22), .bipush (6), .iload 2, .imul, .iadd, .iload 3, .iadd, .iaload, .istore 4, .iload 4, .ifCond .le (124), .aload 0, .getstatic 708, .iload 2, .iaload, .bipush (-1), .if_icmp .eq (124), .aload 0, .getstatic 708, .iload 3, .iaload, .bipush (-1), .if_icmp .eq (120), .aload 0, .getstatic 708, .iload 2, .iaload, .iload 4, .iadd, .aload 0, .getstatic 708, .iload 3, .iaload, .if_icmp .ge (124), .bipush (1), .goto (125)]
def k_161_39 : List Instr := [.iload 2, .aload 0, .getstatic 700, .bipush (0), .iaload, .if_icmp .ge (168), .bipush (0), .istore 3, .iload 3, .aload 0, .getstatic 700, .bipush (0), .iaload, .if_icmp .ge (162), .aload 0, .getstatic 700, .bipush (22), .bipush (6), .iload 2, .imul, .iadd, .iload 3, .iadd, .iaload, .istore 4, .iload 4, .ifCond .le (124), .aload 0, .getstatic 708, .iload 2, .iaload, .bipush (-1), .if_icmp .eq (124), .aload 0, .getstatic 708, .iload 3, .iaload, .bipush (-1), .if_icmp .eq (120), .aload 0, .getstatic 708, .iload 2, .iaload, .iload 4, .iadd, .aload 0, .getstatic 708, .iload 3, .iaload, .if_icmp .ge (124), .bipush (1), .goto (125)]
def k_161_51 : List Instr := [.iload 3, .aload 0, .getstatic 700, .bipush (0), .iaload, .if_icmp .ge (162), .aload 0, .getstatic 700, .bipush (22), .bipush (6), .iload 2, .imul, .iadd, .iload 3, .iadd, .iaload, .istore 4, .iload 4, .ifCond .le (124), .aload 0, .getstatic 708, .iload 2, .iaload, .bipush (-1), .if_icmp .eq (124), .aload 0, .getstatic 708, .iload 3, .iaload, .bipush (-1), .if_icmp .eq (120), .aload 0, .getstatic 708, .iload 2, .iaload, .iload 4, .iadd, .aload 0, .getstatic 708, .iload 3, .iaload, .if_icmp .ge (124), .bipush (1), .goto (125)]
def k_161_120 : List Instr := [.bipush (1), .goto (125)]
def k_161_124 : List Instr := [.bipush (0), .istore 5, .aload 0, .getstatic 708, .iload 3, .iload 5, .ifCond .eq (149), .aload 0, .getstatic 708, .iload 2, .iaload, .iload 4, .iadd, .goto (155)]
def k_161_125 : List Instr := [.istore 5, .aload 0, .getstatic 708, .iload 3, .iload 5, .ifCond .eq (149), .aload 0, .getstatic 708, .iload 2, .iaload, .iload 4, .iadd, .goto (155)]
def k_161_149 : List Instr := [.aload 0, .getstatic 708, .iload 3, .iaload, .iastore, .iinc 3 (1), .goto (51)]
def k_161_155 : List Instr := [.iastore, .iinc 3 (1), .goto (51)]
def k_161_162 : List Instr := [.iinc 2 (1), .goto (39)]
def k_161_168 : List Instr := [.iinc 1 (1), .goto (31)]
def k_161_174 : List Instr := [.return_]
theorem k_161_0_ok : okc 161 0 k_161_0 = true := by decide +kernel
theorem k_161_2_ok : okc 161 2 k_161_2 = true := by decide +kernel
theorem k_161_21_ok : okc 161 21 k_161_21 = true := by decide +kernel
theorem k_161_22_ok : okc 161 22 k_161_22 = true := by decide +kernel
theorem k_161_29_ok : okc 161 29 k_161_29 = true := by decide +kernel
theorem k_161_31_ok : okc 161 31 k_161_31 = true := by decide +kernel
theorem k_161_39_ok : okc 161 39 k_161_39 = true := by decide +kernel
theorem k_161_51_ok : okc 161 51 k_161_51 = true := by decide +kernel
theorem k_161_120_ok : okc 161 120 k_161_120 = true := by decide +kernel
theorem k_161_124_ok : okc 161 124 k_161_124 = true := by decide +kernel
theorem k_161_125_ok : okc 161 125 k_161_125 = true := by decide +kernel
theorem k_161_149_ok : okc 161 149 k_161_149 = true := by decide +kernel
theorem k_161_155_ok : okc 161 155 k_161_155 = true := by decide +kernel
theorem k_161_162_ok : okc 161 162 k_161_162 = true := by decide +kernel
theorem k_161_168_ok : okc 161 168 k_161_168 = true := by decide +kernel
theorem k_161_174_ok : okc 161 174 k_161_174 = true := by decide +kernel
-- 162: RavenSupperModel.isReached(II)Z
def k_162_0 : List Instr := [.aload 0, .getstatic 708, .iload 2, .iaload, .bipush (-1), .if_icmp .eq (38), .bipush (2), .aload 0, .getstatic 708, .iload 2, .iaload, .imul, .aload 0, .getstatic 700, .bipush (58), .bipush (5), .iload 1, .imul, .iadd, .bipush (0), .iadd, .iaload, .if_icmp .gt (38), .bipush (1), .goto (39)]
def k_162_38 : List Instr := [.bipush (0), .freturn]
def k_162_39 : List Instr := [.freturn]
theorem k_162_0_ok : okc 162 0 k_162_0 = true := by decide +kernel
theorem k_162_38_ok : okc 162 38 k_162_38 = true := by decide +kernel
theorem k_162_39_ok : okc 162 39 k_162_39 = true := by decide +kernel
-- 163: RavenSupperModel.reached(I)I
def k_163_0 : List Instr := [.aload 0, .invokeinterface 161 87, .bipush (0), .istore 2, .bipush (0), .istore 3, .iload 3, .aload 0, .getstatic 700, .bipush (0), .iaload, .if_icmp .ge (43), .iload 2, .aload 0, .iload 1, .iload 3, .invokeinterface 162 215, .ifCond .eq (34), .bipush (1), .iload 3, .ishl, .goto (35)]
def k_163_8 : List Instr := [.iload 3, .aload 0, .getstatic 700, .bipush (0), .iaload, .if_icmp .ge (43), .iload 2, .aload 0, .iload 1, .iload 3, .invokeinterface 162 215, .ifCond .eq (34), .bipush (1), .iload 3, .ishl, .goto (35)]
def k_163_34 : List Instr := [.bipush (0), .ior, .istore 2, .iinc 3 (1), .goto (8)]
def k_163_35 : List Instr := [.ior, .istore 2, .iinc 3 (1), .goto (8)]
def k_163_43 : List Instr := [.iload 2, .ireturn]
theorem k_163_0_ok : okc 163 0 k_163_0 = true := by decide +kernel
theorem k_163_8_ok : okc 163 8 k_163_8 = true := by decide +kernel
theorem k_163_34_ok : okc 163 34 k_163_34 = true := by decide +kernel
theorem k_163_35_ok : okc 163 35 k_163_35 = true := by decide +kernel
theorem k_163_43_ok : okc 163 43 k_163_43 = true := by decide +kernel
-- 164: RavenSupperModel.plain(II)I
def k_164_0 : List Instr := [.bipush (8), .bipush (16), .aload 0, .getstatic 708, .iload 2, .iaload, .aload 0, .getstatic 700, .bipush (58), .bipush (5), .iload 1, .imul, .iadd, .bipush (1), .iadd, .iaload, .idiv, .isub, .invokeinterface 127 128, .ireturn]
theorem k_164_0_ok : okc 164 0 k_164_0 = true := by decide +kernel
-- 165: RavenSupperModel.sureOf(III)I
def k_165_0 : List Instr := [.aload 0, .iload 1, .iload 2, .invokeinterface 164 215, .istore 4, .bipush (8), .iload 4, .bipush (2), .isub, .invokeinterface 127 128, .istore 5, .iload 3, .tableswitch 82 (2) (5) #[52, 55, 61, 72]]
def k_165_52 : List Instr := [.iload 5, .ireturn]
def k_165_55 : List Instr := [.bipush (16), .iload 4, .isub, .ireturn]
def k_165_61 : List Instr := [.iload 5, .bipush (8), .isub, .bipush (2), .idiv, .bipush (8), .iadd, .ireturn]
def k_165_72 : List Instr := [.bipush (8), .iload 4, .bipush (3), .isub, .invokeinterface 127 128, .ireturn]
def k_165_82 : List Instr := [.iload 4, .ireturn]
theorem k_165_0_ok : okc 165 0 k_165_0 = true := by decide +kernel
theorem k_165_52_ok : okc 165 52 k_165_52 = true := by decide +kernel
theorem k_165_55_ok : okc 165 55 k_165_55 = true := by decide +kernel
theorem k_165_61_ok : okc 165 61 k_165_61 = true := by decide +kernel
theorem k_165_72_ok : okc 165 72 k_165_72 = true := by decide +kernel
theorem k_165_82_ok : okc 165 82 k_165_82 = true := by decide +kernel
-- 166: RavenSupperModel.lateOf(I)I
def k_166_0 : List Instr := [.iload 0, .bipush (1), .if_icmp .ne (9), .bipush (1), .goto (19)]
def k_166_9 : List Instr := [.iload 0, .bipush (5), .if_icmp .ne (18), .bipush (3), .goto (19)]
def k_166_18 : List Instr := [.bipush (0), .ireturn]
def k_166_19 : List Instr := [.ireturn]
theorem k_166_0_ok : okc 166 0 k_166_0 = true := by decide +kernel
theorem k_166_9_ok : okc 166 9 k_166_9 = true := by decide +kernel
theorem k_166_18_ok : okc 166 18 k_166_18 = true := by decide +kernel
theorem k_166_19_ok : okc 166 19 k_166_19 = true := by decide +kernel
-- 167: RavenSupperModel.heard(II)I
def k_167_0 : List Instr := [.iload 0, .iload 1, .imul, .bipush (16), .iload 0, .isub, .bipush (16), .iload 1, .isub, .imul, .iadd, .istore 2, .iload 2, .ifCond .ne (22), .iload 0, .goto (30)]
def k_167_22 : List Instr := [.bipush (16), .iload 0, .imul, .iload 1, .imul, .iload 2, .idiv, .ireturn]
def k_167_30 : List Instr := [.ireturn]
theorem k_167_0_ok : okc 167 0 k_167_0 = true := by decide +kernel
theorem k_167_22_ok : okc 167 22 k_167_22 = true := by decide +kernel
theorem k_167_30_ok : okc 167 30 k_167_30 = true := by decide +kernel
-- 168: RavenSupperModel.dayOf(II)I
def k_168_0 : List Instr := [.iload 2, .bipush (16), .aload 0, .getstatic 700, .bipush (4), .bipush (3), .iload 1, .imul, .iadd, .bipush (2), .iadd, .iaload, .isub, .imul, .bipush (16), .iload 2, .isub, .aload 0, .getstatic 700, .bipush (4), .bipush (3), .iload 1, .imul, .iadd, .bipush (1), .iadd, .iaload, .imul, .iadd, .bipush (16), .idiv, .ireturn]
theorem k_168_0_ok : okc 168 0 k_168_0 = true := by decide +kernel
-- 169: RavenSupperModel.tell(IIIZ)I
def k_169_0 : List Instr := [.iload 1, .invokeinterface 136 64, .ifCond .eq (27), .aload 0, .getstatic 700, .iload 2, .invokeinterface 134 128, .ifCond .eq (27), .iload 3, .bipush (0), .bipush (5), .invokeinterface 125 192, .ifCond .ne (32), .aload 0, .invokeinterface 128 87, .ireturn]
def k_169_27 : List Instr := [.aload 0, .invokeinterface 128 87, .ireturn]
def k_169_32 : List Instr := [.aload 0, .iload 1, .invokeinterface 163 151, .iload 2, .invokeinterface 126 128, .ifCond .ne (49), .aload 0, .invokeinterface 130 87, .ireturn]
def k_169_49 : List Instr := [.aload 0, .getstatic 700, .bipush (58), .bipush (5), .iload 1, .imul, .iadd, .bipush (2), .iadd, .iload 2, .iastore, .aload 0, .getstatic 700, .bipush (58), .bipush (5), .iload 1, .imul, .iadd, .bipush (3), .iadd, .iload 3, .iastore, .aload 0, .getstatic 700, .bipush (58), .bipush (5), .iload 1, .imul, .iadd, .bipush (4), .iadd, .iload 4, .ifCond .eq (98), .bipush (1), .goto (99)]
def k_169_98 : List Instr := [.bipush (0), .iastore, .aload 0, .iload 1, .iload 2, .iload 3, .invokeinterface 165 279, .ireturn]
def k_169_99 : List Instr := [.iastore, .aload 0, .iload 1, .iload 2, .iload 3, .invokeinterface 165 279, .ireturn]
theorem k_169_0_ok : okc 169 0 k_169_0 = true := by decide +kernel
theorem k_169_27_ok : okc 169 27 k_169_27 = true := by decide +kernel
theorem k_169_32_ok : okc 169 32 k_169_32 = true := by decide +kernel
theorem k_169_49_ok : okc 169 49 k_169_49 = true := by decide +kernel
theorem k_169_98_ok : okc 169 98 k_169_98 = true := by decide +kernel
theorem k_169_99_ok : okc 169 99 k_169_99 = true := by decide +kernel
