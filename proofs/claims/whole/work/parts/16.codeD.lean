/-! LINKED CODES: k_<method>_<label>, the instructions from a label to the next unconditional end; each is checked against the machine's decoding (printed by wip/whole/gen13.py) -/
-- 170: RavenSupperModel.notes()V
def k_170_0 : List Instr := [.aload 0, .getstatic 700, .bipush (3), .iaload, .bipush (8), .if_icmp .ne (52), .bipush (92), .istore 1, .iload 1, .bipush (183), .if_icmp .ge (42), .aload 0, .getstatic 700, .iload 1, .aload 0, .getstatic 700, .iload 1, .bipush (13), .iadd, .iaload, .iastore, .iinc 1 (1), .goto (14)]
def k_170_14 : List Instr := [.iload 1, .bipush (183), .if_icmp .ge (42), .aload 0, .getstatic 700, .iload 1, .aload 0, .getstatic 700, .iload 1, .bipush (13), .iadd, .iaload, .iastore, .iinc 1 (1), .goto (14)]
def k_170_42 : List Instr := [.aload 0, .getstatic 700, .bipush (3), .dup2, .iaload, .bipush (1), .isub, .iastore, .bipush (92), .bipush (13), .aload 0, .getstatic 700, .bipush (3), .iaload, .imul, .iadd, .istore 1, .bipush (0), .istore 2, .iload 2, .bipush (6), .if_icmp .ge (99), .aload 0, .getstatic 700, .iload 1, .iload 2, .iadd, .aload 0, .getstatic 700, .bipush (4), .bipush (3), .iload 2, .imul, .iadd, .bipush (0), .iadd, .iaload, .iastore, .iinc 2 (1), .goto (67)]
def k_170_52 : List Instr := [.bipush (92), .bipush (13), .aload 0, .getstatic 700, .bipush (3), .iaload, .imul, .iadd, .istore 1, .bipush (0), .istore 2, .iload 2, .bipush (6), .if_icmp .ge (99), .aload 0, .getstatic 700, .iload 1, .iload 2, .iadd, .aload 0, .getstatic 700, .bipush (4), .bipush (3), .iload 2, .imul, .iadd, .bipush (0), .iadd, .iaload, .iastore, .iinc 2 (1), .goto (67)]
def k_170_67 : List Instr := [.iload 2, .bipush (6), .if_icmp .ge (99), .aload 0, .getstatic 700, .iload 1, .iload 2, .iadd, .aload 0, .getstatic 700, .bipush (4), .bipush (3), .iload 2, .imul, .iadd, .bipush (0), .iadd, .iaload, .iastore, .iinc 2 (1), .goto (67)]
def k_170_99 : List Instr := [.bipush (0), .istore 2, .iload 2, .bipush (2), .if_icmp .ge (155), .bipush (0), .istore 3, .iload 3, .bipush (3), .if_icmp .ge (149), .aload 0, .getstatic 700, .iload 1, .bipush (6), .iadd, .bipush (3), .iload 2, .imul, .iadd, .iload 3, .iadd, .aload 0, .getstatic 700, .bipush (58), .bipush (5), .iload 2, .imul, .iadd, .bipush (2), .iadd, .iload 3, .iadd, .iaload, .iastore, .iinc 3 (1), .goto (108)]
def k_170_101 : List Instr := [.iload 2, .bipush (2), .if_icmp .ge (155), .bipush (0), .istore 3, .iload 3, .bipush (3), .if_icmp .ge (149), .aload 0, .getstatic 700, .iload 1, .bipush (6), .iadd, .bipush (3), .iload 2, .imul, .iadd, .iload 3, .iadd, .aload 0, .getstatic 700, .bipush (58), .bipush (5), .iload 2, .imul, .iadd, .bipush (2), .iadd, .iload 3, .iadd, .iaload, .iastore, .iinc 3 (1), .goto (108)]
def k_170_108 : List Instr := [.iload 3, .bipush (3), .if_icmp .ge (149), .aload 0, .getstatic 700, .iload 1, .bipush (6), .iadd, .bipush (3), .iload 2, .imul, .iadd, .iload 3, .iadd, .aload 0, .getstatic 700, .bipush (58), .bipush (5), .iload 2, .imul, .iadd, .bipush (2), .iadd, .iload 3, .iadd, .iaload, .iastore, .iinc 3 (1), .goto (108)]
def k_170_149 : List Instr := [.iinc 2 (1), .goto (101)]
def k_170_155 : List Instr := [.aload 0, .getstatic 700, .iload 1, .bipush (12), .iadd, .aload 0, .getstatic 700, .bipush (1), .iaload, .iastore, .aload 0, .getstatic 700, .bipush (3), .dup2, .iaload, .bipush (1), .iadd, .iastore, .return_]
theorem k_170_0_ok : okc 170 0 k_170_0 = true := by decide +kernel
theorem k_170_14_ok : okc 170 14 k_170_14 = true := by decide +kernel
theorem k_170_42_ok : okc 170 42 k_170_42 = true := by decide +kernel
theorem k_170_52_ok : okc 170 52 k_170_52 = true := by decide +kernel
theorem k_170_67_ok : okc 170 67 k_170_67 = true := by decide +kernel
theorem k_170_99_ok : okc 170 99 k_170_99 = true := by decide +kernel
theorem k_170_101_ok : okc 170 101 k_170_101 = true := by decide +kernel
theorem k_170_108_ok : okc 170 108 k_170_108 = true := by decide +kernel
theorem k_170_149_ok : okc 170 149 k_170_149 = true := by decide +kernel
theorem k_170_155_ok : okc 170 155 k_170_155 = true := by decide +kernel
-- 171: RavenSupperModel.evening()I
def k_171_0 : List Instr := [.aload 0, .getstatic 700, .bipush (1), .iaload, .bipush (900), .if_icmp .ne (17), .aload 0, .invokeinterface 130 87, .ireturn]
def k_171_17 : List Instr := [.aload 0, .invokeinterface 170 87, .aload 0, .invokeinterface 161 87, .bipush (0), .istore 1, .iload 1, .bipush (2), .if_icmp .ge (189), .bipush (58), .bipush (5), .iload 1, .imul, .iadd, .istore 2, .aload 0, .getstatic 700, .iload 2, .bipush (2), .iadd, .iaload, .istore 3, .iload 3, .bipush (-1), .if_icmp .eq (183), .aload 0, .iload 1, .iload 3, .aload 0, .getstatic 700, .iload 2, .bipush (3), .iadd, .iaload, .invokeinterface 165 279, .istore 4, .aload 0, .getstatic 700, .bipush (4), .bipush (3), .iload 3, .imul, .iadd, .bipush (0), .iadd, .iaload, .aload 0, .getstatic 700, .iload 2, .bipush (4), .iadd, .iaload, .bipush (1), .if_icmp .ne (98), .iload 4, .goto (103)]
def k_171_27 : List Instr := [.iload 1, .bipush (2), .if_icmp .ge (189), .bipush (58), .bipush (5), .iload 1, .imul, .iadd, .istore 2, .aload 0, .getstatic 700, .iload 2, .bipush (2), .iadd, .iaload, .istore 3, .iload 3, .bipush (-1), .if_icmp .eq (183), .aload 0, .iload 1, .iload 3, .aload 0, .getstatic 700, .iload 2, .bipush (3), .iadd, .iaload, .invokeinterface 165 279, .istore 4, .aload 0, .getstatic 700, .bipush (4), .bipush (3), .iload 3, .imul, .iadd, .bipush (0), .iadd, .iaload, .aload 0, .getstatic 700, .iload 2, .bipush (4), .iadd, .iaload, .bipush (1), .if_icmp .ne (98), .iload 4, .goto (103)]
def k_171_98 : List Instr := [.bipush (16), .iload 4, .isub, .invokeinterface 167 128, .istore 5, .bipush (0), .istore 6, .iload 6, .aload 0, .getstatic 700, .iload 2, .bipush (3), .iadd, .iaload, .invokeinterface 166 64, .if_icmp .ge (142), .aload 0, .iload 3, .iload 5, .invokeinterface 168 215, .istore 5, .iinc 6 (1), .goto (111)]
def k_171_103 : List Instr := [.invokeinterface 167 128, .istore 5, .bipush (0), .istore 6, .iload 6, .aload 0, .getstatic 700, .iload 2, .bipush (3), .iadd, .iaload, .invokeinterface 166 64, .if_icmp .ge (142), .aload 0, .iload 3, .iload 5, .invokeinterface 168 215, .istore 5, .iinc 6 (1), .goto (111)]
def k_171_111 : List Instr := [.iload 6, .aload 0, .getstatic 700, .iload 2, .bipush (3), .iadd, .iaload, .invokeinterface 166 64, .if_icmp .ge (142), .aload 0, .iload 3, .iload 5, .invokeinterface 168 215, .istore 5, .iinc 6 (1), .goto (111)]
def k_171_142 : List Instr := [.aload 0, .getstatic 700, .bipush (4), .bipush (3), .iload 3, .imul, .iadd, .bipush (0), .iadd, .iload 5, .iastore, .aload 0, .getstatic 700, .iload 2, .bipush (2), .iadd, .bipush (-1), .iastore, .aload 0, .getstatic 700, .iload 2, .bipush (3), .iadd, .bipush (0), .iastore, .aload 0, .getstatic 700, .iload 2, .bipush (4), .iadd, .bipush (0), .iastore, .iinc 1 (1), .goto (27)]
def k_171_183 : List Instr := [.iinc 1 (1), .goto (27)]
def k_171_189 : List Instr := [.bipush (0), .istore 1, .iload 1, .aload 0, .getstatic 700, .bipush (0), .iaload, .if_icmp .ge (236), .aload 0, .getstatic 700, .bipush (4), .bipush (3), .iload 1, .imul, .iadd, .bipush (0), .iadd, .aload 0, .iload 1, .aload 0, .getstatic 700, .bipush (4), .bipush (3), .iload 1, .imul, .iadd, .bipush (0), .iadd, .iaload, .invokeinterface 168 215, .iastore, .iinc 1 (1), .goto (191)]
def k_171_191 : List Instr := [.iload 1, .aload 0, .getstatic 700, .bipush (0), .iaload, .if_icmp .ge (236), .aload 0, .getstatic 700, .bipush (4), .bipush (3), .iload 1, .imul, .iadd, .bipush (0), .iadd, .aload 0, .iload 1, .aload 0, .getstatic 700, .bipush (4), .bipush (3), .iload 1, .imul, .iadd, .bipush (0), .iadd, .iaload, .invokeinterface 168 215, .iastore, .iinc 1 (1), .goto (191)]
def k_171_236 : List Instr := [.aload 0, .getstatic 700, .bipush (1), .dup2, .iaload, .bipush (1), .iadd, .iastore, .aload 0, .getstatic 700, .bipush (1), .iaload, .ireturn]
theorem k_171_0_ok : okc 171 0 k_171_0 = true := by decide +kernel
theorem k_171_17_ok : okc 171 17 k_171_17 = true := by decide +kernel
theorem k_171_27_ok : okc 171 27 k_171_27 = true := by decide +kernel
theorem k_171_98_ok : okc 171 98 k_171_98 = true := by decide +kernel
theorem k_171_103_ok : okc 171 103 k_171_103 = true := by decide +kernel
theorem k_171_111_ok : okc 171 111 k_171_111 = true := by decide +kernel
theorem k_171_142_ok : okc 171 142 k_171_142 = true := by decide +kernel
theorem k_171_183_ok : okc 171 183 k_171_183 = true := by decide +kernel
theorem k_171_189_ok : okc 171 189 k_171_189 = true := by decide +kernel
theorem k_171_191_ok : okc 171 191 k_171_191 = true := by decide +kernel
theorem k_171_236_ok : okc 171 236 k_171_236 = true := by decide +kernel
-- 172: RavenSupperModel.undo()I
def k_172_0 : List Instr := [.aload 0, .getstatic 700, .bipush (3), .iaload, .ifCond .ne (14), .aload 0, .invokeinterface 130 87, .ireturn]
def k_172_14 : List Instr := [.aload 0, .getstatic 700, .bipush (3), .dup2, .iaload, .bipush (1), .isub, .iastore, .bipush (92), .bipush (13), .aload 0, .getstatic 700, .bipush (3), .iaload, .imul, .iadd, .istore 1, .bipush (0), .istore 2, .iload 2, .bipush (6), .if_icmp .ge (71), .aload 0, .getstatic 700, .bipush (4), .bipush (3), .iload 2, .imul, .iadd, .bipush (0), .iadd, .aload 0, .getstatic 700, .iload 1, .iload 2, .iadd, .iaload, .iastore, .iinc 2 (1), .goto (39)]
def k_172_39 : List Instr := [.iload 2, .bipush (6), .if_icmp .ge (71), .aload 0, .getstatic 700, .bipush (4), .bipush (3), .iload 2, .imul, .iadd, .bipush (0), .iadd, .aload 0, .getstatic 700, .iload 1, .iload 2, .iadd, .iaload, .iastore, .iinc 2 (1), .goto (39)]
def k_172_71 : List Instr := [.bipush (0), .istore 2, .iload 2, .bipush (2), .if_icmp .ge (127), .bipush (0), .istore 3, .iload 3, .bipush (3), .if_icmp .ge (121), .aload 0, .getstatic 700, .bipush (58), .bipush (5), .iload 2, .imul, .iadd, .bipush (2), .iadd, .iload 3, .iadd, .aload 0, .getstatic 700, .iload 1, .bipush (6), .iadd, .bipush (3), .iload 2, .imul, .iadd, .iload 3, .iadd, .iaload, .iastore, .iinc 3 (1), .goto (80)]
def k_172_73 : List Instr := [.iload 2, .bipush (2), .if_icmp .ge (127), .bipush (0), .istore 3, .iload 3, .bipush (3), .if_icmp .ge (121), .aload 0, .getstatic 700, .bipush (58), .bipush (5), .iload 2, .imul, .iadd, .bipush (2), .iadd, .iload 3, .iadd, .aload 0, .getstatic 700, .iload 1, .bipush (6), .iadd, .bipush (3), .iload 2, .imul, .iadd, .iload 3, .iadd, .iaload, .iastore, .iinc 3 (1), .goto (80)]
def k_172_80 : List Instr := [.iload 3, .bipush (3), .if_icmp .ge (121), .aload 0, .getstatic 700, .bipush (58), .bipush (5), .iload 2, .imul, .iadd, .bipush (2), .iadd, .iload 3, .iadd, .aload 0, .getstatic 700, .iload 1, .bipush (6), .iadd, .bipush (3), .iload 2, .imul, .iadd, .iload 3, .iadd, .iaload, .iastore, .iinc 3 (1), .goto (80)]
def k_172_121 : List Instr := [.iinc 2 (1), .goto (73)]
def k_172_127 : List Instr := [.aload 0, .getstatic 700, .bipush (1), .aload 0, .getstatic 700, .iload 1, .bipush (12), .iadd, .iaload, .iastore, .bipush (1), .ireturn]
theorem k_172_0_ok : okc 172 0 k_172_0 = true := by decide +kernel
theorem k_172_14_ok : okc 172 14 k_172_14 = true := by decide +kernel
theorem k_172_39_ok : okc 172 39 k_172_39 = true := by decide +kernel
theorem k_172_71_ok : okc 172 71 k_172_71 = true := by decide +kernel
theorem k_172_73_ok : okc 172 73 k_172_73 = true := by decide +kernel
theorem k_172_80_ok : okc 172 80 k_172_80 = true := by decide +kernel
theorem k_172_121_ok : okc 172 121 k_172_121 = true := by decide +kernel
theorem k_172_127_ok : okc 172 127 k_172_127 = true := by decide +kernel
-- 173: RavenSupperModel.doubt(I)I
def k_173_0 : List Instr := [.iload 0, .bipush (8), .if_icmp .ge (10), .iload 0, .goto (14)]
def k_173_10 : List Instr := [.bipush (16), .iload 0, .isub, .ireturn]
def k_173_14 : List Instr := [.ireturn]
theorem k_173_0_ok : okc 173 0 k_173_0 = true := by decide +kernel
theorem k_173_10_ok : okc 173 10 k_173_10 = true := by decide +kernel
theorem k_173_14_ok : okc 173 14 k_173_14 = true := by decide +kernel
-- 174: RavenSupperModel.of(II)I
def k_174_0 : List Instr := [.aload 0, .getstatic 700, .iload 1, .invokeinterface 134 128, .ifCond .eq (20), .iload 2, .bipush (0), .bipush (4), .invokeinterface 125 192, .ifCond .ne (25), .aload 0, .invokeinterface 128 87, .ireturn]
def k_174_20 : List Instr := [.aload 0, .invokeinterface 128 87, .ireturn]
def k_174_25 : List Instr := [.aload 0, .invokeinterface 161 87, .iload 2, .bipush (3), .if_icmp .ge (49), .aload 0, .getstatic 700, .bipush (4), .bipush (3), .iload 1, .imul, .iadd, .iload 2, .iadd, .iaload, .goto (76)]
def k_174_49 : List Instr := [.iload 2, .bipush (3), .if_icmp .ne (70), .aload 0, .getstatic 700, .bipush (4), .bipush (3), .iload 1, .imul, .iadd, .iaload, .invokeinterface 173 64, .goto (76)]
def k_174_70 : List Instr := [.aload 0, .getstatic 708, .iload 1, .iaload, .ireturn]
def k_174_76 : List Instr := [.ireturn]
theorem k_174_0_ok : okc 174 0 k_174_0 = true := by decide +kernel
theorem k_174_20_ok : okc 174 20 k_174_20 = true := by decide +kernel
theorem k_174_25_ok : okc 174 25 k_174_25 = true := by decide +kernel
theorem k_174_49_ok : okc 174 49 k_174_49 = true := by decide +kernel
theorem k_174_70_ok : okc 174 70 k_174_70 = true := by decide +kernel
theorem k_174_76_ok : okc 174 76 k_174_76 = true := by decide +kernel
-- 175: RavenSupperModel.about(II)I
def k_175_0 : List Instr := [.iload 1, .invokeinterface 136 64, .ifCond .eq (16), .iload 2, .bipush (0), .bipush (3), .invokeinterface 125 192, .ifCond .ne (21), .aload 0, .invokeinterface 128 87, .ireturn]
def k_175_16 : List Instr := [.aload 0, .invokeinterface 128 87, .ireturn]
def k_175_21 : List Instr := [.iload 2, .bipush (2), .if_icmp .ge (42), .aload 0, .getstatic 700, .bipush (58), .bipush (5), .iload 1, .imul, .iadd, .iload 2, .iadd, .iaload, .goto (68)]
def k_175_42 : List Instr := [.iload 2, .bipush (2), .if_icmp .ne (55), .aload 0, .iload 1, .invokeinterface 163 151, .goto (68)]
def k_175_55 : List Instr := [.aload 0, .getstatic 700, .bipush (58), .bipush (5), .iload 1, .imul, .iadd, .bipush (2), .iadd, .iaload, .ireturn]
def k_175_68 : List Instr := [.ireturn]
theorem k_175_0_ok : okc 175 0 k_175_0 = true := by decide +kernel
theorem k_175_16_ok : okc 175 16 k_175_16 = true := by decide +kernel
theorem k_175_21_ok : okc 175 21 k_175_21 = true := by decide +kernel
theorem k_175_42_ok : okc 175 42 k_175_42 = true := by decide +kernel
theorem k_175_55_ok : okc 175 55 k_175_55 = true := by decide +kernel
theorem k_175_68_ok : okc 175 68 k_175_68 = true := by decide +kernel
-- 176: RavenSupperModel.hours(II)I
def k_176_0 : List Instr := [.aload 0, .getstatic 700, .iload 1, .iload 2, .invokeinterface 137 192, .ifCond .eq (29), .aload 0, .getstatic 700, .bipush (22), .bipush (6), .iload 1, .imul, .iadd, .iload 2, .iadd, .iaload, .goto (33)]
def k_176_29 : List Instr := [.aload 0, .invokeinterface 128 87, .ireturn]
def k_176_33 : List Instr := [.ireturn]
theorem k_176_0_ok : okc 176 0 k_176_0 = true := by decide +kernel
theorem k_176_29_ok : okc 176 29 k_176_29 = true := by decide +kernel
theorem k_176_33_ok : okc 176 33 k_176_33 = true := by decide +kernel
-- 177: RavenSupperModel.sure(IIII)I
def k_177_0 : List Instr := [.iload 1, .invokeinterface 136 64, .ifCond .eq (37), .aload 0, .getstatic 700, .iload 2, .invokeinterface 134 128, .ifCond .eq (37), .iload 3, .bipush (0), .bipush (5), .invokeinterface 125 192, .ifCond .eq (37), .iload 4, .bipush (0), .bipush (1), .invokeinterface 125 192, .ifCond .ne (42), .aload 0, .invokeinterface 128 87, .ireturn]
def k_177_37 : List Instr := [.aload 0, .invokeinterface 128 87, .ireturn]
def k_177_42 : List Instr := [.aload 0, .iload 1, .invokeinterface 163 151, .iload 2, .invokeinterface 126 128, .ifCond .ne (59), .aload 0, .invokeinterface 130 87, .ireturn]
def k_177_59 : List Instr := [.iload 4, .ifCond .ne (74), .aload 0, .iload 1, .iload 2, .iload 3, .invokeinterface 165 279, .goto (78)]
def k_177_74 : List Instr := [.iload 3, .invokeinterface 166 64, .ireturn]
def k_177_78 : List Instr := [.ireturn]
theorem k_177_0_ok : okc 177 0 k_177_0 = true := by decide +kernel
theorem k_177_37_ok : okc 177 37 k_177_37 = true := by decide +kernel
theorem k_177_42_ok : okc 177 42 k_177_42 = true := by decide +kernel
theorem k_177_59_ok : okc 177 59 k_177_59 = true := by decide +kernel
theorem k_177_74_ok : okc 177 74 k_177_74 = true := by decide +kernel
theorem k_177_78_ok : okc 177 78 k_177_78 = true := by decide +kernel
-- 178: RavenSupperModel.ahead(II)I
def k_178_0 : List Instr := [.aload 0, .getstatic 700, .iload 1, .invokeinterface 134 128, .ifCond .eq (21), .iload 2, .bipush (0), .bipush (30), .invokeinterface 125 192, .ifCond .ne (26), .aload 0, .invokeinterface 128 87, .ireturn]
def k_178_21 : List Instr := [.aload 0, .invokeinterface 128 87, .ireturn]
def k_178_26 : List Instr := [.aload 0, .getstatic 700, .bipush (4), .bipush (3), .iload 1, .imul, .iadd, .iaload, .istore 3, .bipush (0), .istore 4, .iload 4, .iload 2, .if_icmp .ge (59), .aload 0, .iload 1, .iload 3, .invokeinterface 168 215, .istore 3, .iinc 4 (1), .goto (40)]
def k_178_40 : List Instr := [.iload 4, .iload 2, .if_icmp .ge (59), .aload 0, .iload 1, .iload 3, .invokeinterface 168 215, .istore 3, .iinc 4 (1), .goto (40)]
def k_178_59 : List Instr := [.iload 3, .ireturn]
theorem k_178_0_ok : okc 178 0 k_178_0 = true := by decide +kernel
theorem k_178_21_ok : okc 178 21 k_178_21 = true := by decide +kernel
theorem k_178_26_ok : okc 178 26 k_178_26 = true := by decide +kernel
theorem k_178_40_ok : okc 178 40 k_178_40 = true := by decide +kernel
theorem k_178_59_ok : okc 178 59 k_178_59 = true := by decide +kernel
-- 179: RavenSupperModel.worthOf(II)I
def k_179_0 : List Instr := [.aload 0, .getstatic 700, .bipush (4), .bipush (3), .iload 2, .imul, .iadd, .iaload, .istore 3, .aload 0, .iload 1, .iload 2, .invokeinterface 164 215, .istore 4, .iload 3, .iload 4, .imul, .bipush (16), .iload 3, .isub, .bipush (16), .iload 4, .isub, .imul, .iadd, .istore 5, .bipush (256), .iload 3, .invokeinterface 173 64, .imul, .iload 3, .iload 4, .invokeinterface 167 128, .invokeinterface 173 64, .iload 5, .imul, .isub, .iload 3, .bipush (16), .iload 4, .isub, .invokeinterface 167 128, .invokeinterface 173 64, .bipush (256), .iload 5, .isub, .imul, .isub, .ireturn]
theorem k_179_0_ok : okc 179 0 k_179_0 = true := by decide +kernel
-- 180: RavenSupperModel.worth(II)I
def k_180_0 : List Instr := [.iload 1, .invokeinterface 136 64, .ifCond .eq (18), .aload 0, .getstatic 700, .iload 2, .invokeinterface 134 128, .ifCond .ne (25), .aload 0, .bipush (-100000), .invokeinterface 129 151, .ireturn]
def k_180_18 : List Instr := [.aload 0, .bipush (-100000), .invokeinterface 129 151, .ireturn]
def k_180_25 : List Instr := [.aload 0, .iload 1, .invokeinterface 163 151, .iload 2, .invokeinterface 126 128, .ifCond .ne (45), .aload 0, .invokeinterface 130 87, .pop, .bipush (-200000), .ireturn]
def k_180_45 : List Instr := [.aload 0, .iload 1, .iload 2, .invokeinterface 179 215, .ireturn]
theorem k_180_0_ok : okc 180 0 k_180_0 = true := by decide +kernel
theorem k_180_18_ok : okc 180 18 k_180_18 = true := by decide +kernel
theorem k_180_25_ok : okc 180 25 k_180_25 = true := by decide +kernel
theorem k_180_45_ok : okc 180 45 k_180_45 = true := by decide +kernel
-- 181: RavenSupperModel.choice(III)I
def k_181_0 : List Instr := [.iload 2, .bipush (7), .if_icmp .ne (10), .bipush (0), .goto (45)]
def k_181_10 : List Instr := [.iload 2, .aload 0, .getstatic 700, .bipush (0), .iaload, .if_icmp .ge (43), .iload 3, .aload 0, .iload 1, .invokeinterface 163 151, .iand, .iload 2, .invokeinterface 126 128, .ifCond .eq (43), .aload 0, .iload 1, .iload 2, .invokeinterface 179 215, .goto (45)]
def k_181_43 : List Instr := [.bipush (-1000000), .ireturn]
def k_181_45 : List Instr := [.ireturn]
theorem k_181_0_ok : okc 181 0 k_181_0 = true := by decide +kernel
theorem k_181_10_ok : okc 181 10 k_181_10 = true := by decide +kernel
theorem k_181_43_ok : okc 181 43 k_181_43 = true := by decide +kernel
theorem k_181_45_ok : okc 181 45 k_181_45 = true := by decide +kernel
-- 182: RavenSupperModel.areApart(II)Z
def k_182_0 : List Instr := [.iload 0, .iload 1, .if_icmp .ne (11), .iload 0, .bipush (7), .if_icmp .ne (15), .bipush (1), .goto (16)]
def k_182_11 : List Instr := [.bipush (1), .goto (16)]
def k_182_15 : List Instr := [.bipush (0), .freturn]
def k_182_16 : List Instr := [.freturn]
theorem k_182_0_ok : okc 182 0 k_182_0 = true := by decide +kernel
theorem k_182_11_ok : okc 182 11 k_182_11 = true := by decide +kernel
theorem k_182_15_ok : okc 182 15 k_182_15 = true := by decide +kernel
theorem k_182_16_ok : okc 182 16 k_182_16 = true := by decide +kernel
-- 183: RavenSupperModel.areLands(I)Z
def k_183_0 : List Instr := [.iload 1, .bipush (0), .bipush (1), .aload 0, .getstatic 700, .bipush (0), .iaload, .ishl, .bipush (1), .isub, .invokeinterface 125 192, .freturn]
theorem k_183_0_ok : okc 183 0 k_183_0 = true := by decide +kernel
-- 184: RavenSupperModel.finds(I)V
def k_184_0 : List Instr := [.aload 0, .bipush (-1), .putfield 715, .aload 0, .bipush (0), .putfield 716, .bipush (0), .istore 2, .iload 2, .bipush (64), .if_icmp .ge (103), .iload 2, .bipush (8), .idiv, .istore 3, .iload 2, .bipush (8), .irem, .istore 4, .aload 0, .bipush (0), .iload 3, .iload 1, .invokeinterface 181 279, .aload 0, .bipush (1), .iload 4, .iload 1, .invokeinterface 181 279, .iadd, .istore 5, .iload 3, .iload 4, .invokeinterface 182 128, .ifCond .eq (97), .iload 5, .bipush (-500000), .if_icmp .le (97), .aload 0, .getfield 715, .bipush (-1), .if_icmp .eq (80), .iload 5, .aload 0, .getfield 716, .if_icmp .le (97), .aload 0, .bipush (10), .iload 3, .imul, .iload 4, .iadd, .putfield 715, .aload 0, .iload 5, .putfield 716, .iinc 2 (1), .goto (12)]
def k_184_12 : List Instr := [.iload 2, .bipush (64), .if_icmp .ge (103), .iload 2, .bipush (8), .idiv, .istore 3, .iload 2, .bipush (8), .irem, .istore 4, .aload 0, .bipush (0), .iload 3, .iload 1, .invokeinterface 181 279, .aload 0, .bipush (1), .iload 4, .iload 1, .invokeinterface 181 279, .iadd, .istore 5, .iload 3, .iload 4, .invokeinterface 182 128, .ifCond .eq (97), .iload 5, .bipush (-500000), .if_icmp .le (97), .aload 0, .getfield 715, .bipush (-1), .if_icmp .eq (80), .iload 5, .aload 0, .getfield 716, .if_icmp .le (97), .aload 0, .bipush (10), .iload 3, .imul, .iload 4, .iadd, .putfield 715, .aload 0, .iload 5, .putfield 716, .iinc 2 (1), .goto (12)]
def k_184_80 : List Instr := [.aload 0, .bipush (10), .iload 3, .imul, .iload 4, .iadd, .putfield 715, .aload 0, .iload 5, .putfield 716, .iinc 2 (1), .goto (12)]
def k_184_97 : List Instr := [.iinc 2 (1), .goto (12)]
def k_184_103 : List Instr := [.return_]
theorem k_184_0_ok : okc 184 0 k_184_0 = true := by decide +kernel
theorem k_184_12_ok : okc 184 12 k_184_12 = true := by decide +kernel
theorem k_184_80_ok : okc 184 80 k_184_80 = true := by decide +kernel
theorem k_184_97_ok : okc 184 97 k_184_97 = true := by decide +kernel
theorem k_184_103_ok : okc 184 103 k_184_103 = true := by decide +kernel
-- 185: RavenSupperModel.send(II)I
def k_185_0 : List Instr := [.aload 0, .iload 1, .invokeinterface 183 151, .ifCond .eq (17), .iload 2, .bipush (0), .bipush (1), .invokeinterface 125 192, .ifCond .ne (22), .aload 0, .invokeinterface 128 87, .ireturn]
def k_185_17 : List Instr := [.aload 0, .invokeinterface 128 87, .ireturn]
def k_185_22 : List Instr := [.aload 0, .iload 1, .invokeinterface 184 151, .iload 2, .ifCond .ne (38), .aload 0, .getfield 715, .goto (42)]
def k_185_38 : List Instr := [.aload 0, .getfield 716, .ireturn]
def k_185_42 : List Instr := [.ireturn]
theorem k_185_0_ok : okc 185 0 k_185_0 = true := by decide +kernel
theorem k_185_17_ok : okc 185 17 k_185_17 = true := by decide +kernel
theorem k_185_22_ok : okc 185 22 k_185_22 = true := by decide +kernel
theorem k_185_38_ok : okc 185 38 k_185_38 = true := by decide +kernel
theorem k_185_42_ok : okc 185 42 k_185_42 = true := by decide +kernel
-- 186: RavenSupperModel.third(I)I
def k_186_0 : List Instr := [.aload 0, .iload 1, .invokeinterface 183 151, .ifCond .ne (13), .aload 0, .invokeinterface 128 87, .ireturn]
def k_186_13 : List Instr := [.aload 0, .iload 1, .invokeinterface 184 151, .aload 0, .getfield 716, .istore 2, .bipush (0), .istore 3, .iload 3, .bipush (512), .if_icmp .ge (135), .iload 3, .bipush (64), .idiv, .istore 4, .iload 3, .bipush (8), .idiv, .bipush (8), .irem, .istore 5, .iload 3, .bipush (8), .irem, .istore 6, .aload 0, .bipush (0), .iload 4, .iload 1, .invokeinterface 181 279, .aload 0, .bipush (1), .iload 5, .iload 1, .invokeinterface 181 279, .iadd, .aload 0, .bipush (0), .iload 6, .iload 1, .invokeinterface 181 279, .iadd, .istore 7, .iload 4, .iload 5, .invokeinterface 182 128, .ifCond .eq (127), .iload 4, .iload 6, .invokeinterface 182 128, .ifCond .eq (127), .iload 5, .iload 6, .invokeinterface 182 128, .ifCond .eq (127), .iload 7, .bipush (-500000), .if_icmp .le (127), .iload 2, .iload 7, .invokeinterface 127 128, .goto (128)]
def k_186_25 : List Instr := [.iload 3, .bipush (512), .if_icmp .ge (135), .iload 3, .bipush (64), .idiv, .istore 4, .iload 3, .bipush (8), .idiv, .bipush (8), .irem, .istore 5, .iload 3, .bipush (8), .irem, .istore 6, .aload 0, .bipush (0), .iload 4, .iload 1, .invokeinterface 181 279, .aload 0, .bipush (1), .iload 5, .iload 1, .invokeinterface 181 279, .iadd, .aload 0, .bipush (0), .iload 6, .iload 1, .invokeinterface 181 279, .iadd, .istore 7, .iload 4, .iload 5, .invokeinterface 182 128, .ifCond .eq (127), .iload 4, .iload 6, .invokeinterface 182 128, .ifCond .eq (127), .iload 5, .iload 6, .invokeinterface 182 128, .ifCond .eq (127), .iload 7, .bipush (-500000), .if_icmp .le (127), .iload 2, .iload 7, .invokeinterface 127 128, .goto (128)]
def k_186_127 : List Instr := [.iload 2, .istore 2, .iinc 3 (1), .goto (25)]
def k_186_128 : List Instr := [.istore 2, .iinc 3 (1), .goto (25)]
def k_186_135 : List Instr := [.iload 2, .aload 0, .getfield 716, .isub, .ireturn]
theorem k_186_0_ok : okc 186 0 k_186_0 = true := by decide +kernel
theorem k_186_13_ok : okc 186 13 k_186_13 = true := by decide +kernel
theorem k_186_25_ok : okc 186 25 k_186_25 = true := by decide +kernel
theorem k_186_127_ok : okc 186 127 k_186_127 = true := by decide +kernel
theorem k_186_128_ok : okc 186 128 k_186_128 = true := by decide +kernel
theorem k_186_135_ok : okc 186 135 k_186_135 = true := by decide +kernel
-- 187: RavenSupperModel.tells(II)V
def k_187_0 : List Instr := [.iload 2, .bipush (7), .if_icmp .ge (47), .aload 0, .iload 1, .iload 2, .invokeinterface 164 215, .istore 3, .aload 0, .getstatic 707, .iload 2, .aload 0, .getstatic 707, .iload 2, .iaload, .aload 0, .getstatic 707, .iload 2, .iaload, .bipush (8), .if_icmp .lt (39), .iload 3, .goto (43)]
def k_187_39 : List Instr := [.bipush (16), .iload 3, .isub, .invokeinterface 167 128, .iastore, .return_]
def k_187_43 : List Instr := [.invokeinterface 167 128, .iastore, .return_]
def k_187_47 : List Instr := [.return_]
theorem k_187_0_ok : okc 187 0 k_187_0 = true := by decide +kernel
theorem k_187_39_ok : okc 187 39 k_187_39 = true := by decide +kernel
theorem k_187_43_ok : okc 187 43 k_187_43 = true := by decide +kernel
theorem k_187_47_ok : okc 187 47 k_187_47 = true := by decide +kernel
-- 188: RavenSupperModel.flies(I)V
def k_188_0 : List Instr := [.aload 0, .bipush (0), .iload 1, .bipush (8), .idiv, .invokeinterface 187 215, .aload 0, .bipush (1), .iload 1, .bipush (8), .irem, .invokeinterface 187 215, .bipush (0), .istore 2, .iload 2, .aload 0, .getstatic 700, .bipush (0), .iaload, .if_icmp .ge (53), .aload 0, .getstatic 707, .iload 2, .aload 0, .iload 2, .aload 0, .getstatic 707, .iload 2, .iaload, .invokeinterface 168 215, .iastore, .iinc 2 (1), .goto (20)]
def k_188_20 : List Instr := [.iload 2, .aload 0, .getstatic 700, .bipush (0), .iaload, .if_icmp .ge (53), .aload 0, .getstatic 707, .iload 2, .aload 0, .iload 2, .aload 0, .getstatic 707, .iload 2, .iaload, .invokeinterface 168 215, .iastore, .iinc 2 (1), .goto (20)]
def k_188_53 : List Instr := [.return_]
theorem k_188_0_ok : okc 188 0 k_188_0 = true := by decide +kernel
theorem k_188_20_ok : okc 188 20 k_188_20 = true := by decide +kernel
theorem k_188_53_ok : okc 188 53 k_188_53 = true := by decide +kernel
-- 189: RavenSupperModel.mayFly(III)Z
def k_189_0 : List Instr := [.iload 1, .bipush (8), .idiv, .istore 4, .iload 1, .bipush (8), .irem, .istore 5, .iload 4, .iload 5, .invokeinterface 182 128, .ifCond .eq (58), .iload 4, .bipush (7), .if_icmp .eq (38), .iload 2, .iload 4, .invokeinterface 126 128, .ifCond .eq (58), .iload 5, .bipush (7), .if_icmp .eq (54), .iload 3, .iload 5, .invokeinterface 126 128, .ifCond .eq (58), .bipush (1), .goto (59)]
def k_189_38 : List Instr := [.iload 5, .bipush (7), .if_icmp .eq (54), .iload 3, .iload 5, .invokeinterface 126 128, .ifCond .eq (58), .bipush (1), .goto (59)]
def k_189_54 : List Instr := [.bipush (1), .goto (59)]
def k_189_58 : List Instr := [.bipush (0), .freturn]
def k_189_59 : List Instr := [.freturn]
theorem k_189_0_ok : okc 189 0 k_189_0 = true := by decide +kernel
theorem k_189_38_ok : okc 189 38 k_189_38 = true := by decide +kernel
theorem k_189_54_ok : okc 189 54 k_189_54 = true := by decide +kernel
theorem k_189_58_ok : okc 189 58 k_189_58 = true := by decide +kernel
theorem k_189_59_ok : okc 189 59 k_189_59 = true := by decide +kernel
-- 190: RavenSupperModel.plan(III)I
def k_190_0 : List Instr := [.iload 1, .bipush (1), .bipush (2), .invokeinterface 125 192, .ifCond .eq (22), .aload 0, .iload 2, .invokeinterface 183 151, .ifCond .eq (22), .iload 3, .bipush (-1), .if_icmp .ge (29), .aload 0, .bipush (-10), .invokeinterface 129 151, .ireturn]
def k_190_22 : List Instr := [.aload 0, .bipush (-10), .invokeinterface 129 151, .ireturn]
def k_190_29 : List Instr := [.iload 3, .iload 1, .if_icmp .lt (37), .bipush (-5), .ireturn]
def k_190_37 : List Instr := [.iload 2, .aload 0, .bipush (0), .invokeinterface 163 151, .iand, .istore 4, .iload 2, .aload 0, .bipush (1), .invokeinterface 163 151, .iand, .istore 5, .bipush (-1), .istore 6, .bipush (0), .istore 7, .bipush (0), .istore 8, .iload 8, .iload 1, .bipush (1), .if_icmp .ne (76), .bipush (64), .goto (79)]
def k_190_64 : List Instr := [.iload 8, .iload 1, .bipush (1), .if_icmp .ne (76), .bipush (64), .goto (79)]
def k_190_76 : List Instr := [.bipush (4096), .if_icmp .ge (277), .iload 1, .bipush (1), .if_icmp .ne (92), .iload 8, .goto (97)]
def k_190_79 : List Instr := [.if_icmp .ge (277), .iload 1, .bipush (1), .if_icmp .ne (92), .iload 8, .goto (97)]
def k_190_92 : List Instr := [.iload 8, .bipush (64), .idiv, .istore 9, .aload 0, .iload 9, .iload 4, .iload 5, .invokeinterface 189 279, .ifCond .eq (137), .iload 1, .bipush (1), .if_icmp .eq (133), .aload 0, .iload 8, .bipush (64), .irem, .iload 4, .iload 5, .invokeinterface 189 279, .ifCond .eq (137), .bipush (1), .goto (138)]
def k_190_97 : List Instr := [.istore 9, .aload 0, .iload 9, .iload 4, .iload 5, .invokeinterface 189 279, .ifCond .eq (137), .iload 1, .bipush (1), .if_icmp .eq (133), .aload 0, .iload 8, .bipush (64), .irem, .iload 4, .iload 5, .invokeinterface 189 279, .ifCond .eq (137), .bipush (1), .goto (138)]
def k_190_133 : List Instr := [.bipush (1), .goto (138)]
def k_190_137 : List Instr := [.bipush (0), .istore 10, .bipush (0), .istore 11, .iload 11, .bipush (6), .if_icmp .ge (174), .aload 0, .getstatic 707, .iload 11, .aload 0, .getstatic 700, .bipush (4), .bipush (3), .iload 11, .imul, .iadd, .iaload, .iastore, .iinc 11 (1), .goto (143)]
def k_190_138 : List Instr := [.istore 10, .bipush (0), .istore 11, .iload 11, .bipush (6), .if_icmp .ge (174), .aload 0, .getstatic 707, .iload 11, .aload 0, .getstatic 700, .bipush (4), .bipush (3), .iload 11, .imul, .iadd, .iaload, .iastore, .iinc 11 (1), .goto (143)]
def k_190_143 : List Instr := [.iload 11, .bipush (6), .if_icmp .ge (174), .aload 0, .getstatic 707, .iload 11, .aload 0, .getstatic 700, .bipush (4), .bipush (3), .iload 11, .imul, .iadd, .iaload, .iastore, .iinc 11 (1), .goto (143)]
def k_190_174 : List Instr := [.iload 10, .ifCond .eq (271), .aload 0, .iload 9, .invokeinterface 188 151, .iload 1, .bipush (2), .if_icmp .ne (199), .aload 0, .iload 8, .bipush (64), .irem, .invokeinterface 188 151, .bipush (0), .istore 11, .bipush (0), .istore 12, .iload 12, .aload 0, .getstatic 700, .bipush (0), .iaload, .if_icmp .ge (250), .iload 11, .iload 2, .iload 12, .invokeinterface 126 128, .ifCond .eq (240), .aload 0, .getstatic 707, .iload 12, .iaload, .invokeinterface 173 64, .goto (241)]
def k_190_199 : List Instr := [.bipush (0), .istore 11, .bipush (0), .istore 12, .iload 12, .aload 0, .getstatic 700, .bipush (0), .iaload, .if_icmp .ge (250), .iload 11, .iload 2, .iload 12, .invokeinterface 126 128, .ifCond .eq (240), .aload 0, .getstatic 707, .iload 12, .iaload, .invokeinterface 173 64, .goto (241)]
def k_190_205 : List Instr := [.iload 12, .aload 0, .getstatic 700, .bipush (0), .iaload, .if_icmp .ge (250), .iload 11, .iload 2, .iload 12, .invokeinterface 126 128, .ifCond .eq (240), .aload 0, .getstatic 707, .iload 12, .iaload, .invokeinterface 173 64, .goto (241)]
def k_190_240 : List Instr := [.bipush (0), .iadd, .istore 11, .iinc 12 (1), .goto (205)]
def k_190_241 : List Instr := [.iadd, .istore 11, .iinc 12 (1), .goto (205)]
def k_190_250 : List Instr := [.iload 6, .bipush (-1), .if_icmp .eq (263), .iload 11, .iload 7, .if_icmp .ge (271), .iload 8, .istore 6, .iload 11, .istore 7, .iinc 8 (1), .goto (64)]
def k_190_263 : List Instr := [.iload 8, .istore 6, .iload 11, .istore 7, .iinc 8 (1), .goto (64)]
def k_190_271 : List Instr := [.iinc 8 (1), .goto (64)]
def k_190_277 : List Instr := [.iload 1, .bipush (1), .if_icmp .eq (287), .iload 3, .bipush (1), .if_icmp .ne (295), .iload 6, .bipush (64), .irem, .goto (300)]
def k_190_287 : List Instr := [.iload 6, .bipush (64), .irem, .goto (300)]
def k_190_295 : List Instr := [.iload 6, .bipush (64), .idiv, .istore 8, .iload 3, .bipush (-1), .if_icmp .ne (312), .iload 7, .goto (326)]
def k_190_300 : List Instr := [.istore 8, .iload 3, .bipush (-1), .if_icmp .ne (312), .iload 7, .goto (326)]
def k_190_312 : List Instr := [.bipush (10), .iload 8, .bipush (8), .idiv, .imul, .iload 8, .bipush (8), .irem, .iadd, .ireturn]
def k_190_326 : List Instr := [.ireturn]
theorem k_190_0_ok : okc 190 0 k_190_0 = true := by decide +kernel
theorem k_190_22_ok : okc 190 22 k_190_22 = true := by decide +kernel
theorem k_190_29_ok : okc 190 29 k_190_29 = true := by decide +kernel
theorem k_190_37_ok : okc 190 37 k_190_37 = true := by decide +kernel
theorem k_190_64_ok : okc 190 64 k_190_64 = true := by decide +kernel
theorem k_190_76_ok : okc 190 76 k_190_76 = true := by decide +kernel
theorem k_190_79_ok : okc 190 79 k_190_79 = true := by decide +kernel
theorem k_190_92_ok : okc 190 92 k_190_92 = true := by decide +kernel
theorem k_190_97_ok : okc 190 97 k_190_97 = true := by decide +kernel
theorem k_190_133_ok : okc 190 133 k_190_133 = true := by decide +kernel
theorem k_190_137_ok : okc 190 137 k_190_137 = true := by decide +kernel
theorem k_190_138_ok : okc 190 138 k_190_138 = true := by decide +kernel
theorem k_190_143_ok : okc 190 143 k_190_143 = true := by decide +kernel
theorem k_190_174_ok : okc 190 174 k_190_174 = true := by decide +kernel
theorem k_190_199_ok : okc 190 199 k_190_199 = true := by decide +kernel
theorem k_190_205_ok : okc 190 205 k_190_205 = true := by decide +kernel
theorem k_190_240_ok : okc 190 240 k_190_240 = true := by decide +kernel
theorem k_190_241_ok : okc 190 241 k_190_241 = true := by decide +kernel
theorem k_190_250_ok : okc 190 250 k_190_250 = true := by decide +kernel
theorem k_190_263_ok : okc 190 263 k_190_263 = true := by decide +kernel
theorem k_190_271_ok : okc 190 271 k_190_271 = true := by decide +kernel
theorem k_190_277_ok : okc 190 277 k_190_277 = true := by decide +kernel
theorem k_190_287_ok : okc 190 287 k_190_287 = true := by decide +kernel
theorem k_190_295_ok : okc 190 295 k_190_295 = true := by decide +kernel
theorem k_190_300_ok : okc 190 300 k_190_300 = true := by decide +kernel
theorem k_190_312_ok : okc 190 312 k_190_312 = true := by decide +kernel
theorem k_190_326_ok : okc 190 326 k_190_326 = true := by decide +kernel
-- 191: RavenSupperModel.isGain(I)Z
def k_191_0 : List Instr := [.iload 0, .bipush (0), .bipush (99), .invokeinterface 125 192, .freturn]
theorem k_191_0_ok : okc 191 0 k_191_0 = true := by decide +kernel
-- 192: RavenSupperModel.makesWar(III)Z
def k_192_0 : List Instr := [.iload 0, .bipush (16), .iload 2, .isub, .imul, .iload 1, .iload 2, .imul, .if_icmp .le (16), .bipush (1), .goto (17)]
def k_192_16 : List Instr := [.bipush (0), .freturn]
def k_192_17 : List Instr := [.freturn]
theorem k_192_0_ok : okc 192 0 k_192_0 = true := by decide +kernel
theorem k_192_16_ok : okc 192 16 k_192_16 = true := by decide +kernel
theorem k_192_17_ok : okc 192 17 k_192_17 = true := by decide +kernel
-- 193: RavenSupperModel.noon(II)I
def k_193_0 : List Instr := [.iload 1, .invokeinterface 191 64, .ifCond .eq (14), .iload 2, .invokeinterface 191 64, .ifCond .ne (19), .aload 0, .invokeinterface 128 87, .ireturn]
def k_193_14 : List Instr := [.aload 0, .invokeinterface 128 87, .ireturn]
def k_193_19 : List Instr := [.bipush (0), .istore 3, .iload 1, .iload 2, .iload 3, .invokeinterface 192 192, .ifCond .eq (36), .iinc 3 (1), .goto (21)]
def k_193_21 : List Instr := [.iload 1, .iload 2, .iload 3, .invokeinterface 192 192, .ifCond .eq (36), .iinc 3 (1), .goto (21)]
def k_193_36 : List Instr := [.iload 3, .ireturn]
theorem k_193_0_ok : okc 193 0 k_193_0 = true := by decide +kernel
theorem k_193_14_ok : okc 193 14 k_193_14 = true := by decide +kernel
theorem k_193_19_ok : okc 193 19 k_193_19 = true := by decide +kernel
theorem k_193_21_ok : okc 193 21 k_193_21 = true := by decide +kernel
theorem k_193_36_ok : okc 193 36 k_193_36 = true := by decide +kernel
-- 194: RavenSupperModel.mixed(IIII)I
def k_194_0 : List Instr := [.iload 1, .invokeinterface 191 64, .ifCond .eq (29), .iload 2, .invokeinterface 191 64, .ifCond .eq (29), .iload 3, .invokeinterface 191 64, .ifCond .eq (29), .iload 4, .invokeinterface 191 64, .ifCond .ne (36), .aload 0, .bipush (-10), .invokeinterface 129 151, .ireturn]
def k_194_29 : List Instr := [.aload 0, .bipush (-10), .invokeinterface 129 151, .ireturn]
def k_194_36 : List Instr := [.bipush (0), .istore 5, .iload 5, .bipush (17), .if_icmp .ge (79), .iload 1, .iload 2, .iload 5, .invokeinterface 192 192, .ifCond .ne (73), .iload 3, .iload 4, .bipush (16), .iload 5, .isub, .invokeinterface 192 192, .ifCond .ne (73), .iload 5, .ireturn]
def k_194_39 : List Instr := [.iload 5, .bipush (17), .if_icmp .ge (79), .iload 1, .iload 2, .iload 5, .invokeinterface 192 192, .ifCond .ne (73), .iload 3, .iload 4, .bipush (16), .iload 5, .isub, .invokeinterface 192 192, .ifCond .ne (73), .iload 5, .ireturn]
def k_194_73 : List Instr := [.iinc 5 (1), .goto (39)]
def k_194_79 : List Instr := [.bipush (-1), .ireturn]
theorem k_194_0_ok : okc 194 0 k_194_0 = true := by decide +kernel
theorem k_194_29_ok : okc 194 29 k_194_29 = true := by decide +kernel
theorem k_194_36_ok : okc 194 36 k_194_36 = true := by decide +kernel
theorem k_194_39_ok : okc 194 39 k_194_39 = true := by decide +kernel
theorem k_194_73_ok : okc 194 73 k_194_73 = true := by decide +kernel
theorem k_194_79_ok : okc 194 79 k_194_79 = true := by decide +kernel
-- 195: RavenSupperModel.power(II)I
def k_195_0 : List Instr := [.bipush (1), .istore 2, .bipush (0), .istore 3, .iload 3, .iload 1, .if_icmp .ge (19), .iload 2, .iload 0, .imul, .istore 2, .iinc 3 (1), .goto (4)]
def k_195_4 : List Instr := [.iload 3, .iload 1, .if_icmp .ge (19), .iload 2, .iload 0, .imul, .istore 2, .iinc 3 (1), .goto (4)]
def k_195_19 : List Instr := [.iload 2, .ireturn]
theorem k_195_0_ok : okc 195 0 k_195_0 = true := by decide +kernel
theorem k_195_4_ok : okc 195 4 k_195_4 = true := by decide +kernel
theorem k_195_19_ok : okc 195 19 k_195_19 = true := by decide +kernel
-- 196: RavenSupperModel.sees(IIII)Z
def k_196_0 : List Instr := [.bipush (1), .istore 4, .bipush (0), .istore 5, .iload 5, .iload 1, .if_icmp .ge (85), .bipush (0), .istore 6, .bipush (0), .istore 7, .iload 7, .iload 3, .if_icmp .ge (58), .iload 6, .bipush (1), .iload 0, .bipush (6), .iload 1, .bipush (1), .isub, .iload 5, .iload 7, .iadd, .iload 1, .irem, .isub, .invokeinterface 195 128, .idiv, .bipush (6), .irem, .ishl, .ior, .istore 6, .iinc 7 (1), .goto (18)]
def k_196_6 : List Instr := [.iload 5, .iload 1, .if_icmp .ge (85), .bipush (0), .istore 6, .bipush (0), .istore 7, .iload 7, .iload 3, .if_icmp .ge (58), .iload 6, .bipush (1), .iload 0, .bipush (6), .iload 1, .bipush (1), .isub, .iload 5, .iload 7, .iadd, .iload 1, .irem, .isub, .invokeinterface 195 128, .idiv, .bipush (6), .irem, .ishl, .ior, .istore 6, .iinc 7 (1), .goto (18)]
def k_196_18 : List Instr := [.iload 7, .iload 3, .if_icmp .ge (58), .iload 6, .bipush (1), .iload 0, .bipush (6), .iload 1, .bipush (1), .isub, .iload 5, .iload 7, .iadd, .iload 1, .irem, .isub, .invokeinterface 195 128, .idiv, .bipush (6), .irem, .ishl, .ior, .istore 6, .iinc 7 (1), .goto (18)]
def k_196_58 : List Instr := [.iload 4, .ifCond .eq (76), .iload 2, .iload 6, .bipush (-1), .ixor, .iand, .ifCond .ne (76), .bipush (1), .goto (77)]
def k_196_76 : List Instr := [.bipush (0), .istore 4, .iinc 5 (1), .goto (6)]
def k_196_77 : List Instr := [.istore 4, .iinc 5 (1), .goto (6)]
def k_196_85 : List Instr := [.iload 4, .freturn]
theorem k_196_0_ok : okc 196 0 k_196_0 = true := by decide +kernel
theorem k_196_6_ok : okc 196 6 k_196_6 = true := by decide +kernel
theorem k_196_18_ok : okc 196 18 k_196_18 = true := by decide +kernel
theorem k_196_58_ok : okc 196 58 k_196_58 = true := by decide +kernel
theorem k_196_76_ok : okc 196 76 k_196_76 = true := by decide +kernel
theorem k_196_77_ok : okc 196 77 k_196_77 = true := by decide +kernel
theorem k_196_85_ok : okc 196 85 k_196_85 = true := by decide +kernel
-- 197: RavenSupperModel.round(IIII)I
def k_197_0 : List Instr := [.iload 1, .bipush (1), .bipush (5), .invokeinterface 125 192, .ifCond .eq (32), .aload 0, .iload 2, .invokeinterface 183 151, .ifCond .eq (32), .iload 3, .bipush (1), .bipush (12), .invokeinterface 125 192, .ifCond .eq (32), .iload 4, .ifCond .ge (39), .aload 0, .bipush (-10), .invokeinterface 129 151, .ireturn]
def k_197_32 : List Instr := [.aload 0, .bipush (-10), .invokeinterface 129 151, .ireturn]
def k_197_39 : List Instr := [.aload 0, .bipush (0), .invokeinterface 163 151, .istore 5, .bipush (0), .istore 6, .iload 6, .bipush (6), .iload 1, .invokeinterface 195 128, .if_icmp .ge (162), .bipush (1), .istore 7, .bipush (0), .istore 8, .iload 8, .iload 1, .if_icmp .ge (111), .iload 7, .ifCond .eq (102), .iload 5, .iload 6, .bipush (6), .iload 8, .invokeinterface 195 128, .idiv, .bipush (6), .irem, .invokeinterface 126 128, .ifCond .eq (102), .bipush (1), .goto (103)]
def k_197_49 : List Instr := [.iload 6, .bipush (6), .iload 1, .invokeinterface 195 128, .if_icmp .ge (162), .bipush (1), .istore 7, .bipush (0), .istore 8, .iload 8, .iload 1, .if_icmp .ge (111), .iload 7, .ifCond .eq (102), .iload 5, .iload 6, .bipush (6), .iload 8, .invokeinterface 195 128, .idiv, .bipush (6), .irem, .invokeinterface 126 128, .ifCond .eq (102), .bipush (1), .goto (103)]
def k_197_66 : List Instr := [.iload 8, .iload 1, .if_icmp .ge (111), .iload 7, .ifCond .eq (102), .iload 5, .iload 6, .bipush (6), .iload 8, .invokeinterface 195 128, .idiv, .bipush (6), .irem, .invokeinterface 126 128, .ifCond .eq (102), .bipush (1), .goto (103)]
def k_197_102 : List Instr := [.bipush (0), .istore 7, .iinc 8 (1), .goto (66)]
def k_197_103 : List Instr := [.istore 7, .iinc 8 (1), .goto (66)]
def k_197_111 : List Instr := [.iload 7, .ifCond .eq (156), .iload 6, .iload 1, .iload 2, .iload 3, .invokeinterface 196 256, .ifCond .eq (156), .iload 4, .iload 1, .if_icmp .ge (153), .iload 6, .bipush (6), .iload 1, .bipush (1), .isub, .iload 4, .isub, .invokeinterface 195 128, .idiv, .bipush (6), .irem, .goto (155)]
def k_197_153 : List Instr := [.bipush (-5), .ireturn]
def k_197_155 : List Instr := [.ireturn]
def k_197_156 : List Instr := [.iinc 6 (1), .goto (49)]
def k_197_162 : List Instr := [.bipush (-1), .ireturn]
theorem k_197_0_ok : okc 197 0 k_197_0 = true := by decide +kernel
theorem k_197_32_ok : okc 197 32 k_197_32 = true := by decide +kernel
theorem k_197_39_ok : okc 197 39 k_197_39 = true := by decide +kernel
theorem k_197_49_ok : okc 197 49 k_197_49 = true := by decide +kernel
theorem k_197_66_ok : okc 197 66 k_197_66 = true := by decide +kernel
theorem k_197_102_ok : okc 197 102 k_197_102 = true := by decide +kernel
theorem k_197_103_ok : okc 197 103 k_197_103 = true := by decide +kernel
theorem k_197_111_ok : okc 197 111 k_197_111 = true := by decide +kernel
theorem k_197_153_ok : okc 197 153 k_197_153 = true := by decide +kernel
theorem k_197_155_ok : okc 197 155 k_197_155 = true := by decide +kernel
theorem k_197_156_ok : okc 197 156 k_197_156 = true := by decide +kernel
theorem k_197_162_ok : okc 197 162 k_197_162 = true := by decide +kernel
-- 198: RavenSupperModel.crow(IIZ)I
def k_198_0 : List Instr := [.iload 1, .bipush (0), .bipush (3), .invokeinterface 125 192, .ifCond .eq (20), .aload 0, .getstatic 700, .iload 2, .invokeinterface 134 128, .ifCond .ne (25), .aload 0, .invokeinterface 128 87, .ireturn]
def k_198_20 : List Instr := [.aload 0, .invokeinterface 128 87, .ireturn]
def k_198_25 : List Instr := [.aload 0, .getstatic 700, .bipush (2), .iaload, .bipush (8), .if_icmp .ne (41), .aload 0, .invokeinterface 131 87, .ireturn]
def k_198_41 : List Instr := [.bipush (68), .bipush (3), .aload 0, .getstatic 700, .bipush (2), .iaload, .imul, .iadd, .istore 4, .aload 0, .getstatic 700, .iload 4, .iload 1, .iastore, .aload 0, .getstatic 700, .iload 4, .bipush (1), .iadd, .iload 2, .iastore, .aload 0, .getstatic 700, .iload 4, .bipush (2), .iadd, .iload 3, .ifCond .eq (88), .bipush (1), .goto (89)]
def k_198_88 : List Instr := [.bipush (0), .iastore, .aload 0, .getstatic 700, .bipush (2), .dup2, .iaload, .bipush (1), .iadd, .iastore, .aload 0, .getstatic 700, .bipush (3), .bipush (0), .iastore, .aload 0, .getstatic 700, .bipush (2), .iaload, .ireturn]
def k_198_89 : List Instr := [.iastore, .aload 0, .getstatic 700, .bipush (2), .dup2, .iaload, .bipush (1), .iadd, .iastore, .aload 0, .getstatic 700, .bipush (3), .bipush (0), .iastore, .aload 0, .getstatic 700, .bipush (2), .iaload, .ireturn]
theorem k_198_0_ok : okc 198 0 k_198_0 = true := by decide +kernel
theorem k_198_20_ok : okc 198 20 k_198_20 = true := by decide +kernel
theorem k_198_25_ok : okc 198 25 k_198_25 = true := by decide +kernel
theorem k_198_41_ok : okc 198 41 k_198_41 = true := by decide +kernel
theorem k_198_88_ok : okc 198 88 k_198_88 = true := by decide +kernel
theorem k_198_89_ok : okc 198 89 k_198_89 = true := by decide +kernel
-- 199: RavenSupperModel.hush()I
def k_199_0 : List Instr := [.aload 0, .getstatic 700, .bipush (2), .iaload, .istore 1, .aload 0, .getstatic 700, .bipush (2), .bipush (0), .iastore, .aload 0, .getstatic 700, .bipush (3), .bipush (0), .iastore, .iload 1, .ireturn]
theorem k_199_0_ok : okc 199 0 k_199_0 = true := by decide +kernel
-- 200: RavenSupperModel.holds(I)Z
def k_200_0 : List Instr := [.bipush (0), .istore 2, .bipush (0), .istore 3, .bipush (0), .istore 4, .iload 4, .aload 0, .getstatic 700, .bipush (2), .iaload, .if_icmp .ge (119), .bipush (1), .aload 0, .getstatic 700, .bipush (68), .bipush (3), .iload 4, .imul, .iadd, .bipush (1), .iadd, .iaload, .ishl, .istore 5, .aload 0, .getstatic 700, .bipush (68), .bipush (3), .iload 4, .imul, .iadd, .bipush (2), .iadd, .iaload, .bipush (1), .if_icmp .ne (58), .bipush (1), .goto (59)]
def k_200_7 : List Instr := [.iload 4, .aload 0, .getstatic 700, .bipush (2), .iaload, .if_icmp .ge (119), .bipush (1), .aload 0, .getstatic 700, .bipush (68), .bipush (3), .iload 4, .imul, .iadd, .bipush (1), .iadd, .iaload, .ishl, .istore 5, .aload 0, .getstatic 700, .bipush (68), .bipush (3), .iload 4, .imul, .iadd, .bipush (2), .iadd, .iaload, .bipush (1), .if_icmp .ne (58), .bipush (1), .goto (59)]
def k_200_58 : List Instr := [.bipush (0), .iload 1, .aload 0, .getstatic 700, .bipush (68), .bipush (3), .iload 4, .imul, .iadd, .iaload, .invokeinterface 126 128, .if_icmp .eq (82), .bipush (1), .goto (83)]
def k_200_59 : List Instr := [.iload 1, .aload 0, .getstatic 700, .bipush (68), .bipush (3), .iload 4, .imul, .iadd, .iaload, .invokeinterface 126 128, .if_icmp .eq (82), .bipush (1), .goto (83)]
def k_200_82 : List Instr := [.bipush (0), .istore 6, .iload 2, .iload 6, .ifCond .eq (96), .iload 5, .goto (97)]
def k_200_83 : List Instr := [.istore 6, .iload 2, .iload 6, .ifCond .eq (96), .iload 5, .goto (97)]
def k_200_96 : List Instr := [.bipush (0), .ior, .istore 2, .iload 3, .iload 6, .ifCond .eq (109), .bipush (0), .goto (111)]
def k_200_97 : List Instr := [.ior, .istore 2, .iload 3, .iload 6, .ifCond .eq (109), .bipush (0), .goto (111)]
def k_200_109 : List Instr := [.iload 5, .ior, .istore 3, .iinc 4 (1), .goto (7)]
def k_200_111 : List Instr := [.ior, .istore 3, .iinc 4 (1), .goto (7)]
def k_200_119 : List Instr := [.iload 2, .iload 3, .iand, .ifCond .ne (129), .bipush (1), .goto (130)]
def k_200_129 : List Instr := [.bipush (0), .freturn]
def k_200_130 : List Instr := [.freturn]
theorem k_200_0_ok : okc 200 0 k_200_0 = true := by decide +kernel
theorem k_200_7_ok : okc 200 7 k_200_7 = true := by decide +kernel
theorem k_200_58_ok : okc 200 58 k_200_58 = true := by decide +kernel
theorem k_200_59_ok : okc 200 59 k_200_59 = true := by decide +kernel
theorem k_200_82_ok : okc 200 82 k_200_82 = true := by decide +kernel
theorem k_200_83_ok : okc 200 83 k_200_83 = true := by decide +kernel
theorem k_200_96_ok : okc 200 96 k_200_96 = true := by decide +kernel
theorem k_200_97_ok : okc 200 97 k_200_97 = true := by decide +kernel
theorem k_200_109_ok : okc 200 109 k_200_109 = true := by decide +kernel
theorem k_200_111_ok : okc 200 111 k_200_111 = true := by decide +kernel
theorem k_200_119_ok : okc 200 119 k_200_119 = true := by decide +kernel
theorem k_200_129_ok : okc 200 129 k_200_129 = true := by decide +kernel
theorem k_200_130_ok : okc 200 130 k_200_130 = true := by decide +kernel
-- 201: RavenSupperModel.liars(I)I
def k_201_0 : List Instr := [.iload 1, .bipush (0), .bipush (1), .invokeinterface 125 192, .ifCond .ne (16), .aload 0, .bipush (-10), .invokeinterface 129 151, .ireturn]
def k_201_16 : List Instr := [.bipush (0), .istore 2, .bipush (15), .istore 3, .bipush (0), .istore 4, .iload 4, .bipush (16), .if_icmp .ge (54), .aload 0, .iload 4, .invokeinterface 200 151, .ifCond .eq (48), .iinc 2 (1), .iload 3, .iload 4, .iand, .istore 3, .iinc 4 (1), .goto (24)]
def k_201_24 : List Instr := [.iload 4, .bipush (16), .if_icmp .ge (54), .aload 0, .iload 4, .invokeinterface 200 151, .ifCond .eq (48), .iinc 2 (1), .iload 3, .iload 4, .iand, .istore 3, .iinc 4 (1), .goto (24)]
def k_201_48 : List Instr := [.iinc 4 (1), .goto (24)]
def k_201_54 : List Instr := [.iload 1, .ifCond .ne (62), .iload 2, .goto (71)]
def k_201_62 : List Instr := [.iload 2, .ifCond .ne (70), .bipush (-1), .goto (71)]
def k_201_70 : List Instr := [.iload 3, .ireturn]
def k_201_71 : List Instr := [.ireturn]
theorem k_201_0_ok : okc 201 0 k_201_0 = true := by decide +kernel
theorem k_201_16_ok : okc 201 16 k_201_16 = true := by decide +kernel
theorem k_201_24_ok : okc 201 24 k_201_24 = true := by decide +kernel
theorem k_201_48_ok : okc 201 48 k_201_48 = true := by decide +kernel
theorem k_201_54_ok : okc 201 54 k_201_54 = true := by decide +kernel
theorem k_201_62_ok : okc 201 62 k_201_62 = true := by decide +kernel
theorem k_201_70_ok : okc 201 70 k_201_70 = true := by decide +kernel
theorem k_201_71_ok : okc 201 71 k_201_71 = true := by decide +kernel
-- 202: RavenSupperModel.leftOut(IIII)I
def k_202_0 : List Instr := [.iload 1, .bipush (0), .bipush (6), .invokeinterface 125 192, .ifCond .eq (50), .aload 0, .getstatic 700, .iload 2, .invokeinterface 134 128, .ifCond .eq (50), .aload 0, .getstatic 700, .iload 3, .invokeinterface 134 128, .ifCond .eq (50), .iload 4, .bipush (-1), .if_icmp .eq (55), .aload 0, .getstatic 700, .iload 4, .invokeinterface 134 128, .ifCond .ne (55), .aload 0, .invokeinterface 128 87, .ireturn]
def k_202_50 : List Instr := [.aload 0, .invokeinterface 128 87, .ireturn]
def k_202_55 : List Instr := [.bipush (0), .istore 5, .bipush (0), .istore 6, .iload 6, .bipush (1), .aload 0, .getstatic 700, .bipush (0), .iaload, .ishl, .if_icmp .ge (161), .bipush (0), .istore 7, .bipush (0), .istore 8, .iload 8, .bipush (6), .if_icmp .ge (105), .iload 7, .iload 6, .iload 8, .ishr, .bipush (1), .iand, .iadd, .istore 7, .iinc 8 (1), .goto (80)]
def k_202_61 : List Instr := [.iload 6, .bipush (1), .aload 0, .getstatic 700, .bipush (0), .iaload, .ishl, .if_icmp .ge (161), .bipush (0), .istore 7, .bipush (0), .istore 8, .iload 8, .bipush (6), .if_icmp .ge (105), .iload 7, .iload 6, .iload 8, .ishr, .bipush (1), .iand, .iadd, .istore 7, .iinc 8 (1), .goto (80)]
def k_202_80 : List Instr := [.iload 8, .bipush (6), .if_icmp .ge (105), .iload 7, .iload 6, .iload 8, .ishr, .bipush (1), .iand, .iadd, .istore 7, .iinc 8 (1), .goto (80)]
def k_202_105 : List Instr := [.iload 5, .iload 7, .iload 1, .if_icmp .ne (151), .iload 6, .iload 2, .invokeinterface 126 128, .ifCond .eq (151), .iload 6, .iload 3, .invokeinterface 126 128, .ifCond .eq (151), .iload 4, .bipush (-1), .if_icmp .eq (147), .iload 6, .iload 4, .invokeinterface 126 128, .ifCond .eq (151), .bipush (1), .goto (152)]
def k_202_147 : List Instr := [.bipush (1), .goto (152)]
def k_202_151 : List Instr := [.bipush (0), .iadd, .istore 5, .iinc 6 (1), .goto (61)]
def k_202_152 : List Instr := [.iadd, .istore 5, .iinc 6 (1), .goto (61)]
def k_202_161 : List Instr := [.iload 5, .ireturn]
theorem k_202_0_ok : okc 202 0 k_202_0 = true := by decide +kernel
theorem k_202_50_ok : okc 202 50 k_202_50 = true := by decide +kernel
theorem k_202_55_ok : okc 202 55 k_202_55 = true := by decide +kernel
theorem k_202_61_ok : okc 202 61 k_202_61 = true := by decide +kernel
theorem k_202_80_ok : okc 202 80 k_202_80 = true := by decide +kernel
theorem k_202_105_ok : okc 202 105 k_202_105 = true := by decide +kernel
theorem k_202_147_ok : okc 202 147 k_202_147 = true := by decide +kernel
theorem k_202_151_ok : okc 202 151 k_202_151 = true := by decide +kernel
theorem k_202_152_ok : okc 202 152 k_202_152 = true := by decide +kernel
theorem k_202_161_ok : okc 202 161 k_202_161 = true := by decide +kernel
-- 203: RavenSupperModel.mornings(II)I
def k_203_0 : List Instr := [.iload 1, .bipush (0), .bipush (60), .invokeinterface 125 192, .ifCond .eq (20), .iload 2, .bipush (0), .bipush (999999), .invokeinterface 125 192, .ifCond .ne (25), .aload 0, .invokeinterface 128 87, .ireturn]
def k_203_20 : List Instr := [.aload 0, .invokeinterface 128 87, .ireturn]
def k_203_25 : List Instr := [.iload 2, .i2l, .lstore 3, .bipush (0), .istore 5, .bipush (0), .istore 6, .bipush (0), .istore 7, .iload 7, .iload 1, .if_icmp .ge (169), .bipush (0), .istore 8, .iload 8, .aload 0, .getstatic 700, .bipush (0), .iaload, .if_icmp .ge (135), .lload 3, .sipush (1103515245), .lmul, .sipush (12345), .ladd, .sipush (2147483648), .lrem, .lstore 3, .aload 0, .getstatic 700, .bipush (4), .bipush (3), .iload 8, .imul, .iadd, .iload 5, .iload 8, .invokeinterface 126 128, .ifCond .eq (95), .bipush (2), .goto (96)]
def k_203_37 : List Instr := [.iload 7, .iload 1, .if_icmp .ge (169), .bipush (0), .istore 8, .iload 8, .aload 0, .getstatic 700, .bipush (0), .iaload, .if_icmp .ge (135), .lload 3, .sipush (1103515245), .lmul, .sipush (12345), .ladd, .sipush (2147483648), .lrem, .lstore 3, .aload 0, .getstatic 700, .bipush (4), .bipush (3), .iload 8, .imul, .iadd, .iload 5, .iload 8, .invokeinterface 126 128, .ifCond .eq (95), .bipush (2), .goto (96)]
def k_203_46 : List Instr := [.iload 8, .aload 0, .getstatic 700, .bipush (0), .iaload, .if_icmp .ge (135), .lload 3, .sipush (1103515245), .lmul, .sipush (12345), .ladd, .sipush (2147483648), .lrem, .lstore 3, .aload 0, .getstatic 700, .bipush (4), .bipush (3), .iload 8, .imul, .iadd, .iload 5, .iload 8, .invokeinterface 126 128, .ifCond .eq (95), .bipush (2), .goto (96)]
def k_203_95 : List Instr := [.bipush (1), .iadd, .iaload, .istore 9, .iload 5, .lload 3, .sipush (65536), .ldiv, .sipush (16), .lrem, .iload 9, .i2l, .lcmp, .ifCond .ge (125), .bipush (1), .iload 8, .ishl, .goto (126)]
def k_203_96 : List Instr := [.iadd, .iaload, .istore 9, .iload 5, .lload 3, .sipush (65536), .ldiv, .sipush (16), .lrem, .iload 9, .i2l, .lcmp, .ifCond .ge (125), .bipush (1), .iload 8, .ishl, .goto (126)]
def k_203_125 : List Instr := [.bipush (0), .ixor, .istore 5, .iinc 8 (1), .goto (46)]
def k_203_126 : List Instr := [.ixor, .istore 5, .iinc 8 (1), .goto (46)]
def k_203_135 : List Instr := [.bipush (0), .istore 8, .iload 8, .bipush (6), .if_icmp .ge (163), .iload 6, .iload 5, .iload 8, .ishr, .bipush (1), .iand, .iadd, .istore 6, .iinc 8 (1), .goto (138)]
def k_203_138 : List Instr := [.iload 8, .bipush (6), .if_icmp .ge (163), .iload 6, .iload 5, .iload 8, .ishr, .bipush (1), .iand, .iadd, .istore 6, .iinc 8 (1), .goto (138)]
def k_203_163 : List Instr := [.iinc 7 (1), .goto (37)]
def k_203_169 : List Instr := [.iload 6, .ireturn]
theorem k_203_0_ok : okc 203 0 k_203_0 = true := by decide +kernel
theorem k_203_20_ok : okc 203 20 k_203_20 = true := by decide +kernel
theorem k_203_25_ok : okc 203 25 k_203_25 = true := by decide +kernel
theorem k_203_37_ok : okc 203 37 k_203_37 = true := by decide +kernel
theorem k_203_46_ok : okc 203 46 k_203_46 = true := by decide +kernel
theorem k_203_95_ok : okc 203 95 k_203_95 = true := by decide +kernel
theorem k_203_96_ok : okc 203 96 k_203_96 = true := by decide +kernel
theorem k_203_125_ok : okc 203 125 k_203_125 = true := by decide +kernel
theorem k_203_126_ok : okc 203 126 k_203_126 = true := by decide +kernel
theorem k_203_135_ok : okc 203 135 k_203_135 = true := by decide +kernel
theorem k_203_138_ok : okc 203 138 k_203_138 = true := by decide +kernel
theorem k_203_163_ok : okc 203 163 k_203_163 = true := by decide +kernel
theorem k_203_169_ok : okc 203 169 k_203_169 = true := by decide +kernel
-- 204: RavenSupperModel.image(I)I
def k_204_0 : List Instr := [.iload 1, .bipush (0), .bipush (1), .invokeinterface 125 192, .ifCond .ne (14), .aload 0, .invokeinterface 128 87, .ireturn]
def k_204_14 : List Instr := [.aload 0, .getstatic 700, .bipush (0), .aload 0, .getstatic 702, .bipush (196), .iload 1, .imul, .invokeinterface 132 256, .aload 0, .getstatic 703, .iload 1, .bipush (1), .bastore, .bipush (1), .ireturn]
theorem k_204_0_ok : okc 204 0 k_204_0 = true := by decide +kernel
theorem k_204_14_ok : okc 204 14 k_204_14 = true := by decide +kernel
-- 205: RavenSupperModel.from(I)I
def k_205_0 : List Instr := [.iload 1, .bipush (0), .bipush (1), .invokeinterface 125 192, .ifCond .ne (14), .aload 0, .invokeinterface 128 87, .ireturn]
def k_205_14 : List Instr := [.aload 0, .getstatic 703, .iload 1, .baload, .ifCond .ne (28), .aload 0, .invokeinterface 130 87, .ireturn]
def k_205_28 : List Instr := [.aload 0, .getstatic 702, .bipush (196), .iload 1, .imul, .aload 0, .getstatic 700, .bipush (0), .invokeinterface 132 256, .bipush (1), .ireturn]
theorem k_205_0_ok : okc 205 0 k_205_0 = true := by decide +kernel
theorem k_205_14_ok : okc 205 14 k_205_14 = true := by decide +kernel
theorem k_205_28_ok : okc 205 28 k_205_28 = true := by decide +kernel
-- 206: RavenSupperModel.status(I)I
def k_206_0 : List Instr := [.iload 1, .bipush (0), .bipush (2), .invokeinterface 125 192, .ifCond .eq (18), .aload 0, .getstatic 704, .iload 1, .iaload, .goto (23)]
def k_206_18 : List Instr := [.aload 0, .bipush (-1), .invokeinterface 129 151, .ireturn]
def k_206_23 : List Instr := [.ireturn]
theorem k_206_0_ok : okc 206 0 k_206_0 = true := by decide +kernel
theorem k_206_18_ok : okc 206 18 k_206_18 = true := by decide +kernel
theorem k_206_23_ok : okc 206 23 k_206_23 = true := by decide +kernel
-- 207: RavenSupperModel.ways()I
def k_207_0 : List Instr := [.bipush (0), .istore 1, .bipush (0), .istore 2, .iload 2, .bipush (6), .if_icmp .ge (57), .iload 2, .bipush (1), .iadd, .istore 3, .iload 3, .bipush (6), .if_icmp .ge (51), .iload 1, .aload 0, .getstatic 700, .bipush (22), .bipush (6), .iload 2, .imul, .iadd, .iload 3, .iadd, .iaload, .ifCond .le (42), .bipush (1), .goto (43)]
def k_207_4 : List Instr := [.iload 2, .bipush (6), .if_icmp .ge (57), .iload 2, .bipush (1), .iadd, .istore 3, .iload 3, .bipush (6), .if_icmp .ge (51), .iload 1, .aload 0, .getstatic 700, .bipush (22), .bipush (6), .iload 2, .imul, .iadd, .iload 3, .iadd, .iaload, .ifCond .le (42), .bipush (1), .goto (43)]
def k_207_14 : List Instr := [.iload 3, .bipush (6), .if_icmp .ge (51), .iload 1, .aload 0, .getstatic 700, .bipush (22), .bipush (6), .iload 2, .imul, .iadd, .iload 3, .iadd, .iaload, .ifCond .le (42), .bipush (1), .goto (43)]
def k_207_42 : List Instr := [.bipush (0), .iadd, .istore 1, .iinc 3 (1), .goto (14)]
def k_207_43 : List Instr := [.iadd, .istore 1, .iinc 3 (1), .goto (14)]
def k_207_51 : List Instr := [.iinc 2 (1), .goto (4)]
def k_207_57 : List Instr := [.iload 1, .ireturn]
theorem k_207_0_ok : okc 207 0 k_207_0 = true := by decide +kernel
theorem k_207_4_ok : okc 207 4 k_207_4 = true := by decide +kernel
theorem k_207_14_ok : okc 207 14 k_207_14 = true := by decide +kernel
theorem k_207_42_ok : okc 207 42 k_207_42 = true := by decide +kernel
theorem k_207_43_ok : okc 207 43 k_207_43 = true := by decide +kernel
theorem k_207_51_ok : okc 207 51 k_207_51 = true := by decide +kernel
theorem k_207_57_ok : okc 207 57 k_207_57 = true := by decide +kernel
-- 208: RavenSupperModel.counted(I)I
def k_208_0 : List Instr := [.iload 1, .ifCond .ne (13), .aload 0, .getstatic 700, .bipush (0), .iaload, .goto (71)]
def k_208_13 : List Instr := [.iload 1, .bipush (1), .if_icmp .ne (27), .aload 0, .getstatic 700, .bipush (1), .iaload, .goto (71)]
def k_208_27 : List Instr := [.iload 1, .bipush (2), .if_icmp .ne (39), .aload 0, .invokeinterface 207 87, .goto (71)]
def k_208_39 : List Instr := [.iload 1, .bipush (3), .if_icmp .ne (53), .aload 0, .getstatic 700, .bipush (2), .iaload, .goto (71)]
def k_208_53 : List Instr := [.iload 1, .bipush (4), .if_icmp .ne (67), .aload 0, .getstatic 700, .bipush (3), .iaload, .goto (71)]
def k_208_67 : List Instr := [.aload 0, .getfield 706, .ireturn]
def k_208_71 : List Instr := [.ireturn]
theorem k_208_0_ok : okc 208 0 k_208_0 = true := by decide +kernel
theorem k_208_13_ok : okc 208 13 k_208_13 = true := by decide +kernel
theorem k_208_27_ok : okc 208 27 k_208_27 = true := by decide +kernel
theorem k_208_39_ok : okc 208 39 k_208_39 = true := by decide +kernel
theorem k_208_53_ok : okc 208 53 k_208_53 = true := by decide +kernel
theorem k_208_67_ok : okc 208 67 k_208_67 = true := by decide +kernel
theorem k_208_71_ok : okc 208 71 k_208_71 = true := by decide +kernel
-- 209: RavenSupperModel.count(I)I
def k_209_0 : List Instr := [.iload 1, .bipush (0), .bipush (5), .invokeinterface 125 192, .ifCond .eq (17), .aload 0, .iload 1, .invokeinterface 208 151, .goto (21)]
def k_209_17 : List Instr := [.aload 0, .invokeinterface 128 87, .ireturn]
def k_209_21 : List Instr := [.ireturn]
theorem k_209_0_ok : okc 209 0 k_209_0 = true := by decide +kernel
theorem k_209_17_ok : okc 209 17 k_209_17 = true := by decide +kernel
theorem k_209_21_ok : okc 209 21 k_209_21 = true := by decide +kernel
-- 210: RavenSupperModel.digest()J
def k_210_0 : List Instr := [.sipush (911), .lstore 1, .bipush (0), .istore 3, .iload 3, .bipush (6), .if_icmp .ge (31), .sipush (31), .lload 1, .lmul, .aload 0, .iload 3, .invokeinterface 208 151, .i2l, .ladd, .lstore 1, .iinc 3 (1), .goto (6)]
def k_210_6 : List Instr := [.iload 3, .bipush (6), .if_icmp .ge (31), .sipush (31), .lload 1, .lmul, .aload 0, .iload 3, .invokeinterface 208 151, .i2l, .ladd, .lstore 1, .iinc 3 (1), .goto (6)]
def k_210_31 : List Instr := [.bipush (0), .istore 3, .iload 3, .bipush (3), .aload 0, .getstatic 700, .bipush (0), .iaload, .imul, .if_icmp .ge (67), .sipush (31), .lload 1, .lmul, .aload 0, .getstatic 700, .bipush (4), .iload 3, .iadd, .iaload, .i2l, .ladd, .lstore 1, .iinc 3 (1), .goto (33)]
def k_210_33 : List Instr := [.iload 3, .bipush (3), .aload 0, .getstatic 700, .bipush (0), .iaload, .imul, .if_icmp .ge (67), .sipush (31), .lload 1, .lmul, .aload 0, .getstatic 700, .bipush (4), .iload 3, .iadd, .iaload, .i2l, .ladd, .lstore 1, .iinc 3 (1), .goto (33)]
def k_210_67 : List Instr := [.bipush (0), .istore 3, .iload 3, .aload 0, .getstatic 700, .bipush (0), .iaload, .if_icmp .ge (130), .iload 3, .bipush (1), .iadd, .istore 4, .iload 4, .aload 0, .getstatic 700, .bipush (0), .iaload, .if_icmp .ge (124), .sipush (31), .lload 1, .lmul, .aload 0, .getstatic 700, .bipush (22), .bipush (6), .iload 3, .imul, .iadd, .iload 4, .iadd, .iaload, .i2l, .ladd, .lstore 1, .iinc 4 (1), .goto (84)]
def k_210_69 : List Instr := [.iload 3, .aload 0, .getstatic 700, .bipush (0), .iaload, .if_icmp .ge (130), .iload 3, .bipush (1), .iadd, .istore 4, .iload 4, .aload 0, .getstatic 700, .bipush (0), .iaload, .if_icmp .ge (124), .sipush (31), .lload 1, .lmul, .aload 0, .getstatic 700, .bipush (22), .bipush (6), .iload 3, .imul, .iadd, .iload 4, .iadd, .iaload, .i2l, .ladd, .lstore 1, .iinc 4 (1), .goto (84)]
def k_210_84 : List Instr := [.iload 4, .aload 0, .getstatic 700, .bipush (0), .iaload, .if_icmp .ge (124), .sipush (31), .lload 1, .lmul, .aload 0, .getstatic 700, .bipush (22), .bipush (6), .iload 3, .imul, .iadd, .iload 4, .iadd, .iaload, .i2l, .ladd, .lstore 1, .iinc 4 (1), .goto (84)]
def k_210_124 : List Instr := [.iinc 3 (1), .goto (69)]
def k_210_130 : List Instr := [.bipush (0), .istore 3, .iload 3, .bipush (10), .if_icmp .ge (161), .sipush (31), .lload 1, .lmul, .aload 0, .getstatic 700, .bipush (58), .iload 3, .iadd, .iaload, .i2l, .ladd, .lstore 1, .iinc 3 (1), .goto (132)]
def k_210_132 : List Instr := [.iload 3, .bipush (10), .if_icmp .ge (161), .sipush (31), .lload 1, .lmul, .aload 0, .getstatic 700, .bipush (58), .iload 3, .iadd, .iaload, .i2l, .ladd, .lstore 1, .iinc 3 (1), .goto (132)]
def k_210_161 : List Instr := [.bipush (0), .istore 3, .iload 3, .bipush (3), .aload 0, .getstatic 700, .bipush (2), .iaload, .imul, .if_icmp .ge (198), .sipush (31), .lload 1, .lmul, .aload 0, .getstatic 700, .bipush (68), .iload 3, .iadd, .iaload, .i2l, .ladd, .lstore 1, .iinc 3 (1), .goto (163)]
def k_210_163 : List Instr := [.iload 3, .bipush (3), .aload 0, .getstatic 700, .bipush (2), .iaload, .imul, .if_icmp .ge (198), .sipush (31), .lload 1, .lmul, .aload 0, .getstatic 700, .bipush (68), .iload 3, .iadd, .iaload, .i2l, .ladd, .lstore 1, .iinc 3 (1), .goto (163)]
def k_210_198 : List Instr := [.lload 1, .lreturn]
theorem k_210_0_ok : okc 210 0 k_210_0 = true := by decide +kernel
theorem k_210_6_ok : okc 210 6 k_210_6 = true := by decide +kernel
theorem k_210_31_ok : okc 210 31 k_210_31 = true := by decide +kernel
theorem k_210_33_ok : okc 210 33 k_210_33 = true := by decide +kernel
theorem k_210_67_ok : okc 210 67 k_210_67 = true := by decide +kernel
theorem k_210_69_ok : okc 210 69 k_210_69 = true := by decide +kernel
theorem k_210_84_ok : okc 210 84 k_210_84 = true := by decide +kernel
theorem k_210_124_ok : okc 210 124 k_210_124 = true := by decide +kernel
theorem k_210_130_ok : okc 210 130 k_210_130 = true := by decide +kernel
theorem k_210_132_ok : okc 210 132 k_210_132 = true := by decide +kernel
theorem k_210_161_ok : okc 210 161 k_210_161 = true := by decide +kernel
theorem k_210_163_ok : okc 210 163 k_210_163 = true := by decide +kernel
theorem k_210_198_ok : okc 210 198 k_210_198 = true := by decide +kernel
