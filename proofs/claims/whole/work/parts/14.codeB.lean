/-! LINKED CODES: k_<method>_<label>, the instructions from a label to the next unconditional end; each is checked against the machine's decoding (printed by wip/whole/gen13.py) -/
-- 36: RavenSupper$Text.add(I)I
def k_36_0 : List Instr := [.iload 1, .bipush (0), .bipush (127), .invokeinterface 120 192, .ifCond .ne (13), .bipush (-2), .ireturn]
def k_36_13 : List Instr := [.aload 0, .getfield 401, .bipush (150), .if_icmp .lt (26), .bipush (-4), .ireturn]
def k_36_26 : List Instr := [.aload 0, .getstatic 400, .aload 0, .getfield 401, .iload 1, .i2c, .castore, .aload 0, .dup, .getfield 401, .bipush (1), .iadd, .putfield 401, .aload 0, .getfield 401, .ireturn]
theorem k_36_0_ok : okc 36 0 k_36_0 = true := by decide +kernel
theorem k_36_13_ok : okc 36 13 k_36_13 = true := by decide +kernel
theorem k_36_26_ok : okc 36 26 k_36_26 = true := by decide +kernel
-- 37: RavenSupper$Text.drop()I
def k_37_0 : List Instr := [.aload 0, .getfield 401, .istore 1, .aload 0, .bipush (0), .putfield 401, .iload 1, .ireturn]
theorem k_37_0_ok : okc 37 0 k_37_0 = true := by decide +kernel
-- 38: RavenSupper$Text.tellTo(LRavenSupper$World;)I
def k_38_0 : List Instr := [.bipush (-1), .istore 2, .bipush (0), .istore 3, .aload 0, .bipush (0), .putfield 403, .iload 3, .bipush (150), .if_icmp .ge (118), .aload 0, .invokeinterface 42 84, .istore 4, .iload 4, .ifCond .ne (34), .iload 3, .ifCond .le (34), .goto (118)]
def k_38_9 : List Instr := [.iload 3, .bipush (150), .if_icmp .ge (118), .aload 0, .invokeinterface 42 84, .istore 4, .iload 4, .ifCond .ne (34), .iload 3, .ifCond .le (34), .goto (118)]
def k_38_34 : List Instr := [.iload 4, .bipush (1), .if_icmp .ne (47), .aload 0, .invokeinterface 46 84, .goto (48)]
def k_38_47 : List Instr := [.bipush (-1), .istore 5, .iload 5, .bipush (-1), .if_icmp .eq (87), .iload 5, .ifCond .ne (65), .bipush (1), .goto (66)]
def k_38_48 : List Instr := [.istore 5, .iload 5, .bipush (-1), .if_icmp .eq (87), .iload 5, .ifCond .ne (65), .bipush (1), .goto (66)]
def k_38_65 : List Instr := [.bipush (0), .iload 3, .ifCond .ne (74), .bipush (1), .goto (75)]
def k_38_66 : List Instr := [.iload 3, .ifCond .ne (74), .bipush (1), .goto (75)]
def k_38_74 : List Instr := [.bipush (0), .if_icmp .ne (87), .aload 0, .iload 5, .invokeinterface 39 148, .ifCond .ne (95), .bipush (-10), .aload 0, .getfield 402, .isub, .ireturn]
def k_38_75 : List Instr := [.if_icmp .ne (87), .aload 0, .iload 5, .invokeinterface 39 148, .ifCond .ne (95), .bipush (-10), .aload 0, .getfield 402, .isub, .ireturn]
def k_38_87 : List Instr := [.bipush (-10), .aload 0, .getfield 402, .isub, .ireturn]
def k_38_95 : List Instr := [.iload 2, .bipush (-1), .if_icmp .ne (112), .aload 0, .aload 1, .iload 5, .invokeinterface 41 212, .ifCond .ge (112), .iload 3, .istore 2, .iinc 3 (1), .goto (9)]
def k_38_112 : List Instr := [.iinc 3 (1), .goto (9)]
def k_38_118 : List Instr := [.iload 2, .bipush (-1), .if_icmp .ne (127), .iload 3, .goto (132)]
def k_38_127 : List Instr := [.bipush (-1000), .iload 2, .isub, .ireturn]
def k_38_132 : List Instr := [.ireturn]
theorem k_38_0_ok : okc 38 0 k_38_0 = true := by decide +kernel
theorem k_38_9_ok : okc 38 9 k_38_9 = true := by decide +kernel
theorem k_38_34_ok : okc 38 34 k_38_34 = true := by decide +kernel
theorem k_38_47_ok : okc 38 47 k_38_47 = true := by decide +kernel
theorem k_38_48_ok : okc 38 48 k_38_48 = true := by decide +kernel
theorem k_38_65_ok : okc 38 65 k_38_65 = true := by decide +kernel
theorem k_38_66_ok : okc 38 66 k_38_66 = true := by decide +kernel
theorem k_38_74_ok : okc 38 74 k_38_74 = true := by decide +kernel
theorem k_38_75_ok : okc 38 75 k_38_75 = true := by decide +kernel
theorem k_38_87_ok : okc 38 87 k_38_87 = true := by decide +kernel
theorem k_38_95_ok : okc 38 95 k_38_95 = true := by decide +kernel
theorem k_38_112_ok : okc 38 112 k_38_112 = true := by decide +kernel
theorem k_38_118_ok : okc 38 118 k_38_118 = true := by decide +kernel
theorem k_38_127_ok : okc 38 127 k_38_127 = true := by decide +kernel
theorem k_38_132_ok : okc 38 132 k_38_132 = true := by decide +kernel
-- 39: RavenSupper$Text.readNumbers(I)Z
def k_39_0 : List Instr := [.iload 1, .invokeinterface 40 64, .istore 2, .bipush (0), .istore 3, .iload 3, .iload 2, .if_icmp .ge (38), .aload 0, .invokeinterface 42 84, .bipush (2), .if_icmp .eq (22), .bipush (0), .freturn]
def k_39_7 : List Instr := [.iload 3, .iload 2, .if_icmp .ge (38), .aload 0, .invokeinterface 42 84, .bipush (2), .if_icmp .eq (22), .bipush (0), .freturn]
def k_39_22 : List Instr := [.aload 0, .getstatic 404, .iload 3, .aload 0, .invokeinterface 45 84, .iastore, .iinc 3 (1), .goto (7)]
def k_39_38 : List Instr := [.aload 0, .invokeinterface 42 84, .bipush (3), .if_icmp .ne (50), .bipush (1), .goto (51)]
def k_39_50 : List Instr := [.bipush (0), .freturn]
def k_39_51 : List Instr := [.freturn]
theorem k_39_0_ok : okc 39 0 k_39_0 = true := by decide +kernel
theorem k_39_7_ok : okc 39 7 k_39_7 = true := by decide +kernel
theorem k_39_22_ok : okc 39 22 k_39_22 = true := by decide +kernel
theorem k_39_38_ok : okc 39 38 k_39_38 = true := by decide +kernel
theorem k_39_50_ok : okc 39 50 k_39_50 = true := by decide +kernel
theorem k_39_51_ok : okc 39 51 k_39_51 = true := by decide +kernel
-- 40: RavenSupper$Text.numbersOf(I)I
def k_40_0 : List Instr := [.iload 0, .lookupswitch 32 #[(0, 28), (1, 30)]]
def k_40_28 : List Instr := [.bipush (1), .ireturn]
def k_40_30 : List Instr := [.bipush (2), .ireturn]
def k_40_32 : List Instr := [.bipush (3), .ireturn]
theorem k_40_0_ok : okc 40 0 k_40_0 = true := by decide +kernel
theorem k_40_28_ok : okc 40 28 k_40_28 = true := by decide +kernel
theorem k_40_30_ok : okc 40 30 k_40_30 = true := by decide +kernel
theorem k_40_32_ok : okc 40 32 k_40_32 = true := by decide +kernel
-- 41: RavenSupper$Text.tellItem(LRavenSupper$World;I)I
def k_41_0 : List Instr := [.iload 2, .tableswitch 106 (0) (3) #[32, 43, 60, 83]]
def k_41_32 : List Instr := [.aload 1, .aload 0, .getstatic 404, .bipush (0), .iaload, .invokeinterface 49 149, .ireturn]
def k_41_43 : List Instr := [.aload 1, .aload 0, .getstatic 404, .bipush (0), .iaload, .aload 0, .getstatic 404, .bipush (1), .iaload, .invokeinterface 50 213, .ireturn]
def k_41_60 : List Instr := [.aload 1, .aload 0, .getstatic 404, .bipush (0), .iaload, .aload 0, .getstatic 404, .bipush (1), .iaload, .aload 0, .getstatic 404, .bipush (2), .iaload, .invokeinterface 51 277, .ireturn]
def k_41_83 : List Instr := [.aload 1, .aload 0, .getstatic 404, .bipush (0), .iaload, .aload 0, .getstatic 404, .bipush (1), .iaload, .aload 0, .getstatic 404, .bipush (2), .iaload, .invokeinterface 52 277, .ireturn]
def k_41_106 : List Instr := [.aload 1, .aload 0, .getstatic 404, .bipush (0), .iaload, .aload 0, .getstatic 404, .bipush (1), .iaload, .aload 0, .getstatic 404, .bipush (2), .iaload, .invokeinterface 53 277, .ireturn]
theorem k_41_0_ok : okc 41 0 k_41_0 = true := by decide +kernel
theorem k_41_32_ok : okc 41 32 k_41_32 = true := by decide +kernel
theorem k_41_43_ok : okc 41 43 k_41_43 = true := by decide +kernel
theorem k_41_60_ok : okc 41 60 k_41_60 = true := by decide +kernel
theorem k_41_83_ok : okc 41 83 k_41_83 = true := by decide +kernel
theorem k_41_106_ok : okc 41 106 k_41_106 = true := by decide +kernel
-- 42: RavenSupper$Text.nextToken()I
def k_42_0 : List Instr := [.aload 0, .aload 0, .getfield 403, .putfield 402, .aload 0, .getfield 402, .aload 0, .getfield 401, .if_icmp .ge (46), .aload 0, .getstatic 400, .aload 0, .getfield 402, .caload, .bipush (32), .if_icmp .ne (46), .aload 0, .dup, .getfield 402, .bipush (1), .iadd, .putfield 402, .goto (8)]
def k_42_8 : List Instr := [.aload 0, .getfield 402, .aload 0, .getfield 401, .if_icmp .ge (46), .aload 0, .getstatic 400, .aload 0, .getfield 402, .caload, .bipush (32), .if_icmp .ne (46), .aload 0, .dup, .getfield 402, .bipush (1), .iadd, .putfield 402, .goto (8)]
def k_42_46 : List Instr := [.aload 0, .aload 0, .getfield 402, .putfield 403, .aload 0, .getfield 402, .aload 0, .getfield 401, .if_icmp .lt (67), .bipush (0), .ireturn]
def k_42_67 : List Instr := [.aload 0, .dup, .getfield 403, .bipush (1), .iadd, .putfield 403, .aload 0, .getstatic 400, .aload 0, .getfield 402, .caload, .invokeinterface 43 64, .ifCond .eq (133), .aload 0, .getfield 403, .aload 0, .getfield 401, .if_icmp .ge (131), .aload 0, .getstatic 400, .aload 0, .getfield 403, .caload, .invokeinterface 43 64, .ifCond .eq (131), .aload 0, .dup, .getfield 403, .bipush (1), .iadd, .putfield 403, .goto (92)]
def k_42_92 : List Instr := [.aload 0, .getfield 403, .aload 0, .getfield 401, .if_icmp .ge (131), .aload 0, .getstatic 400, .aload 0, .getfield 403, .caload, .invokeinterface 43 64, .ifCond .eq (131), .aload 0, .dup, .getfield 403, .bipush (1), .iadd, .putfield 403, .goto (92)]
def k_42_131 : List Instr := [.bipush (1), .ireturn]
def k_42_133 : List Instr := [.aload 0, .getstatic 400, .aload 0, .getfield 402, .caload, .invokeinterface 44 64, .ifCond .eq (206), .aload 0, .getfield 403, .aload 0, .getfield 401, .if_icmp .ge (187), .aload 0, .getstatic 400, .aload 0, .getfield 403, .caload, .invokeinterface 44 64, .ifCond .eq (187), .aload 0, .dup, .getfield 403, .bipush (1), .iadd, .putfield 403, .goto (148)]
def k_42_148 : List Instr := [.aload 0, .getfield 403, .aload 0, .getfield 401, .if_icmp .ge (187), .aload 0, .getstatic 400, .aload 0, .getfield 403, .caload, .invokeinterface 44 64, .ifCond .eq (187), .aload 0, .dup, .getfield 403, .bipush (1), .iadd, .putfield 403, .goto (148)]
def k_42_187 : List Instr := [.aload 0, .getfield 403, .aload 0, .getfield 402, .isub, .bipush (2), .if_icmp .le (204), .bipush (4), .goto (205)]
def k_42_204 : List Instr := [.bipush (2), .ireturn]
def k_42_205 : List Instr := [.ireturn]
def k_42_206 : List Instr := [.aload 0, .getstatic 400, .aload 0, .getfield 402, .caload, .bipush (59), .if_icmp .ne (224), .bipush (3), .goto (225)]
def k_42_224 : List Instr := [.bipush (4), .ireturn]
def k_42_225 : List Instr := [.ireturn]
theorem k_42_0_ok : okc 42 0 k_42_0 = true := by decide +kernel
theorem k_42_8_ok : okc 42 8 k_42_8 = true := by decide +kernel
theorem k_42_46_ok : okc 42 46 k_42_46 = true := by decide +kernel
theorem k_42_67_ok : okc 42 67 k_42_67 = true := by decide +kernel
theorem k_42_92_ok : okc 42 92 k_42_92 = true := by decide +kernel
theorem k_42_131_ok : okc 42 131 k_42_131 = true := by decide +kernel
theorem k_42_133_ok : okc 42 133 k_42_133 = true := by decide +kernel
theorem k_42_148_ok : okc 42 148 k_42_148 = true := by decide +kernel
theorem k_42_187_ok : okc 42 187 k_42_187 = true := by decide +kernel
theorem k_42_204_ok : okc 42 204 k_42_204 = true := by decide +kernel
theorem k_42_205_ok : okc 42 205 k_42_205 = true := by decide +kernel
theorem k_42_206_ok : okc 42 206 k_42_206 = true := by decide +kernel
theorem k_42_224_ok : okc 42 224 k_42_224 = true := by decide +kernel
theorem k_42_225_ok : okc 42 225 k_42_225 = true := by decide +kernel
-- 43: RavenSupper$Text.isLetter(C)Z
def k_43_0 : List Instr := [.iload 0, .bipush (97), .if_icmp .lt (16), .iload 0, .bipush (122), .if_icmp .gt (16), .bipush (1), .goto (17)]
def k_43_16 : List Instr := [.bipush (0), .freturn]
def k_43_17 : List Instr := [.freturn]
theorem k_43_0_ok : okc 43 0 k_43_0 = true := by decide +kernel
theorem k_43_16_ok : okc 43 16 k_43_16 = true := by decide +kernel
theorem k_43_17_ok : okc 43 17 k_43_17 = true := by decide +kernel
-- 44: RavenSupper$Text.isFigure(C)Z
def k_44_0 : List Instr := [.iload 0, .bipush (48), .if_icmp .lt (16), .iload 0, .bipush (57), .if_icmp .gt (16), .bipush (1), .goto (17)]
def k_44_16 : List Instr := [.bipush (0), .freturn]
def k_44_17 : List Instr := [.freturn]
theorem k_44_0_ok : okc 44 0 k_44_0 = true := by decide +kernel
theorem k_44_16_ok : okc 44 16 k_44_16 = true := by decide +kernel
theorem k_44_17_ok : okc 44 17 k_44_17 = true := by decide +kernel
-- 45: RavenSupper$Text.numberRead()I
def k_45_0 : List Instr := [.bipush (0), .istore 1, .aload 0, .getfield 402, .istore 2, .iload 2, .aload 0, .getfield 403, .if_icmp .ge (36), .bipush (10), .iload 1, .imul, .aload 0, .getstatic 400, .iload 2, .caload, .bipush (48), .isub, .iadd, .istore 1, .iinc 2 (1), .goto (7)]
def k_45_7 : List Instr := [.iload 2, .aload 0, .getfield 403, .if_icmp .ge (36), .bipush (10), .iload 1, .imul, .aload 0, .getstatic 400, .iload 2, .caload, .bipush (48), .isub, .iadd, .istore 1, .iinc 2 (1), .goto (7)]
def k_45_36 : List Instr := [.iload 1, .ireturn]
theorem k_45_0_ok : okc 45 0 k_45_0 = true := by decide +kernel
theorem k_45_7_ok : okc 45 7 k_45_7 = true := by decide +kernel
theorem k_45_36_ok : okc 45 36 k_45_36 = true := by decide +kernel
-- 46: RavenSupper$Text.wordNumber()I
def k_46_0 : List Instr := [.aload 0, .ldc 1001, .invokeinterface 47 148, .ifCond .eq (11), .bipush (0), .ireturn]
def k_46_11 : List Instr := [.aload 0, .ldc 1002, .invokeinterface 47 148, .ifCond .eq (22), .bipush (1), .ireturn]
def k_46_22 : List Instr := [.aload 0, .ldc 1003, .invokeinterface 47 148, .ifCond .eq (33), .bipush (2), .ireturn]
def k_46_33 : List Instr := [.aload 0, .ldc 1004, .invokeinterface 47 148, .ifCond .eq (44), .bipush (3), .ireturn]
def k_46_44 : List Instr := [.aload 0, .ldc 1005, .invokeinterface 47 148, .ifCond .eq (57), .bipush (4), .goto (58)]
def k_46_57 : List Instr := [.bipush (-1), .ireturn]
def k_46_58 : List Instr := [.ireturn]
theorem k_46_0_ok : okc 46 0 k_46_0 = true := by decide +kernel
theorem k_46_11_ok : okc 46 11 k_46_11 = true := by decide +kernel
theorem k_46_22_ok : okc 46 22 k_46_22 = true := by decide +kernel
theorem k_46_33_ok : okc 46 33 k_46_33 = true := by decide +kernel
theorem k_46_44_ok : okc 46 44 k_46_44 = true := by decide +kernel
theorem k_46_57_ok : okc 46 57 k_46_57 = true := by decide +kernel
theorem k_46_58_ok : okc 46 58 k_46_58 = true := by decide +kernel
-- 47: RavenSupper$Text.wordIs(Ljava/lang/String;)Z
def k_47_0 : List Instr := [.aload 0, .getfield 403, .aload 0, .getfield 402, .isub, .aload 1, .invokeinterface 214 104, .if_icmp .eq (18), .bipush (0), .freturn]
def k_47_18 : List Instr := [.bipush (0), .istore 2, .iload 2, .aload 1, .invokeinterface 214 104, .if_icmp .ge (55), .aload 0, .getstatic 400, .aload 0, .getfield 402, .iload 2, .iadd, .caload, .aload 1, .iload 2, .invokeinterface 215 168, .if_icmp .eq (49), .bipush (0), .freturn]
def k_47_20 : List Instr := [.iload 2, .aload 1, .invokeinterface 214 104, .if_icmp .ge (55), .aload 0, .getstatic 400, .aload 0, .getfield 402, .iload 2, .iadd, .caload, .aload 1, .iload 2, .invokeinterface 215 168, .if_icmp .eq (49), .bipush (0), .freturn]
def k_47_49 : List Instr := [.iinc 2 (1), .goto (20)]
def k_47_55 : List Instr := [.bipush (1), .freturn]
theorem k_47_0_ok : okc 47 0 k_47_0 = true := by decide +kernel
theorem k_47_18_ok : okc 47 18 k_47_18 = true := by decide +kernel
theorem k_47_20_ok : okc 47 20 k_47_20 = true := by decide +kernel
theorem k_47_49_ok : okc 47 49 k_47_49 = true := by decide +kernel
theorem k_47_55_ok : okc 47 55 k_47_55 = true := by decide +kernel
-- 48: RavenSupper$World.begin(I)V
def k_48_0 : List Instr := [.aload 0, .iload 1, .putfield 500, .bipush (0), .istore 2, .iload 2, .bipush (6), .if_icmp .ge (56), .aload 0, .getstatic 501, .iload 2, .bipush (2), .iastore, .aload 0, .getstatic 502, .iload 2, .bipush (2), .iastore, .bipush (0), .istore 3, .iload 3, .bipush (6), .if_icmp .ge (50), .aload 0, .getstatic 503, .iload 2, .aaload, .iload 3, .bipush (0), .iastore, .iinc 3 (1), .goto (29)]
def k_48_7 : List Instr := [.iload 2, .bipush (6), .if_icmp .ge (56), .aload 0, .getstatic 501, .iload 2, .bipush (2), .iastore, .aload 0, .getstatic 502, .iload 2, .bipush (2), .iastore, .bipush (0), .istore 3, .iload 3, .bipush (6), .if_icmp .ge (50), .aload 0, .getstatic 503, .iload 2, .aaload, .iload 3, .bipush (0), .iastore, .iinc 3 (1), .goto (29)]
def k_48_29 : List Instr := [.iload 3, .bipush (6), .if_icmp .ge (50), .aload 0, .getstatic 503, .iload 2, .aaload, .iload 3, .bipush (0), .iastore, .iinc 3 (1), .goto (29)]
def k_48_50 : List Instr := [.iinc 2 (1), .goto (7)]
def k_48_56 : List Instr := [.bipush (0), .istore 2, .iload 2, .bipush (2), .if_icmp .ge (84), .aload 0, .getstatic 505, .iload 2, .bipush (12), .iastore, .aload 0, .getstatic 506, .iload 2, .bipush (4), .iastore, .iinc 2 (1), .goto (58)]
def k_48_58 : List Instr := [.iload 2, .bipush (2), .if_icmp .ge (84), .aload 0, .getstatic 505, .iload 2, .bipush (12), .iastore, .aload 0, .getstatic 506, .iload 2, .bipush (4), .iastore, .iinc 2 (1), .goto (58)]
def k_48_84 : List Instr := [.aload 0, .getstatic 507, .bipush (0), .putfield 0, .aload 0, .bipush (0), .putfield 510, .aload 0, .getstatic 508, .invokeinterface 5 81, .aload 0, .invokeinterface 61 85, .return_]
theorem k_48_0_ok : okc 48 0 k_48_0 = true := by decide +kernel
theorem k_48_7_ok : okc 48 7 k_48_7 = true := by decide +kernel
theorem k_48_29_ok : okc 48 29 k_48_29 = true := by decide +kernel
theorem k_48_50_ok : okc 48 50 k_48_50 = true := by decide +kernel
theorem k_48_56_ok : okc 48 56 k_48_56 = true := by decide +kernel
theorem k_48_58_ok : okc 48 58 k_48_58 = true := by decide +kernel
theorem k_48_84_ok : okc 48 84 k_48_84 = true := by decide +kernel
-- 49: RavenSupper$World.setLands(I)I
def k_49_0 : List Instr := [.iload 1, .bipush (1), .bipush (6), .invokeinterface 120 192, .ifCond .ne (13), .bipush (-2), .ireturn]
def k_49_13 : List Instr := [.aload 0, .getfield 500, .istore 2, .aload 0, .iload 1, .invokeinterface 48 149, .iload 2, .ireturn]
theorem k_49_0_ok : okc 49 0 k_49_0 = true := by decide +kernel
theorem k_49_13_ok : okc 49 13 k_49_13 = true := by decide +kernel
-- 50: RavenSupper$World.setBelief(II)I
def k_50_0 : List Instr := [.aload 0, .iload 1, .invokeinterface 57 149, .ifCond .eq (18), .iload 2, .bipush (0), .bipush (16), .invokeinterface 120 192, .ifCond .ne (21), .bipush (-2), .ireturn]
def k_50_18 : List Instr := [.bipush (-2), .ireturn]
def k_50_21 : List Instr := [.aload 0, .getstatic 508, .getstatic 101, .iload 1, .iaload, .istore 3, .aload 0, .getstatic 508, .getstatic 101, .iload 1, .iload 2, .iastore, .aload 0, .bipush (0), .putfield 510, .iload 3, .ireturn]
theorem k_50_0_ok : okc 50 0 k_50_0 = true := by decide +kernel
theorem k_50_18_ok : okc 50 18 k_50_18 = true := by decide +kernel
theorem k_50_21_ok : okc 50 21 k_50_21 = true := by decide +kernel
-- 51: RavenSupper$World.setChange(III)I
def k_51_0 : List Instr := [.aload 0, .iload 1, .invokeinterface 57 149, .ifCond .eq (28), .iload 2, .bipush (0), .bipush (16), .invokeinterface 120 192, .ifCond .eq (28), .iload 3, .bipush (0), .bipush (16), .invokeinterface 120 192, .ifCond .ne (31), .bipush (-2), .ireturn]
def k_51_28 : List Instr := [.bipush (-2), .ireturn]
def k_51_31 : List Instr := [.bipush (100), .aload 0, .getstatic 501, .iload 1, .iaload, .imul, .aload 0, .getstatic 502, .iload 1, .iaload, .iadd, .istore 4, .aload 0, .getstatic 501, .iload 1, .iload 2, .iastore, .aload 0, .getstatic 502, .iload 1, .iload 3, .iastore, .aload 0, .bipush (0), .putfield 510, .iload 4, .ireturn]
theorem k_51_0_ok : okc 51 0 k_51_0 = true := by decide +kernel
theorem k_51_28_ok : okc 51 28 k_51_28 = true := by decide +kernel
theorem k_51_31_ok : okc 51 31 k_51_31 = true := by decide +kernel
-- 52: RavenSupper$World.setWay(III)I
def k_52_0 : List Instr := [.aload 0, .iload 1, .iload 2, .invokeinterface 59 213, .ifCond .eq (19), .iload 3, .bipush (0), .bipush (9), .invokeinterface 120 192, .ifCond .ne (22), .bipush (-2), .ireturn]
def k_52_19 : List Instr := [.bipush (-2), .ireturn]
def k_52_22 : List Instr := [.aload 0, .getstatic 503, .iload 1, .aaload, .iload 2, .iaload, .istore 4, .aload 0, .getstatic 503, .iload 1, .aaload, .iload 2, .iload 3, .iastore, .aload 0, .getstatic 503, .iload 2, .aaload, .iload 1, .iload 3, .iastore, .aload 0, .invokeinterface 61 85, .aload 0, .getstatic 508, .invokeinterface 7 81, .aload 0, .bipush (0), .putfield 510, .iload 4, .ireturn]
theorem k_52_0_ok : okc 52 0 k_52_0 = true := by decide +kernel
theorem k_52_19_ok : okc 52 19 k_52_19 = true := by decide +kernel
theorem k_52_22_ok : okc 52 22 k_52_22 = true := by decide +kernel
-- 53: RavenSupper$World.setBird(III)I
def k_53_0 : List Instr := [.iload 1, .invokeinterface 121 64, .ifCond .eq (27), .iload 2, .bipush (0), .bipush (40), .invokeinterface 120 192, .ifCond .eq (27), .iload 3, .bipush (1), .bipush (9), .invokeinterface 120 192, .ifCond .ne (30), .bipush (-2), .ireturn]
def k_53_27 : List Instr := [.bipush (-2), .ireturn]
def k_53_30 : List Instr := [.aload 0, .getstatic 505, .iload 1, .iaload, .istore 4, .aload 0, .getstatic 505, .iload 1, .iload 2, .iastore, .aload 0, .getstatic 506, .iload 1, .iload 3, .iastore, .aload 0, .getstatic 508, .invokeinterface 7 81, .aload 0, .bipush (0), .putfield 510, .iload 4, .ireturn]
theorem k_53_0_ok : okc 53 0 k_53_0 = true := by decide +kernel
theorem k_53_27_ok : okc 53 27 k_53_27 = true := by decide +kernel
theorem k_53_30_ok : okc 53 30 k_53_30 = true := by decide +kernel
-- 54: RavenSupper$World.hearCaw(IIZ)I
def k_54_0 : List Instr := [.aload 0, .getstatic 507, .getfield 0, .bipush (8), .if_icmp .lt (15), .bipush (-4), .ireturn]
def k_54_15 : List Instr := [.aload 0, .getstatic 507, .iload 1, .iload 2, .iload 3, .invokeinterface 0 272, .aload 0, .bipush (0), .putfield 510, .aload 0, .getstatic 507, .getfield 0, .ireturn]
theorem k_54_0_ok : okc 54 0 k_54_0 = true := by decide +kernel
theorem k_54_15_ok : okc 54 15 k_54_15 = true := by decide +kernel
-- 55: RavenSupper$World.dropCaws()I
def k_55_0 : List Instr := [.aload 0, .getstatic 507, .getfield 0, .istore 1, .aload 0, .getstatic 507, .bipush (0), .putfield 0, .aload 0, .bipush (0), .putfield 510, .iload 1, .ireturn]
theorem k_55_0_ok : okc 55 0 k_55_0 = true := by decide +kernel
-- 56: RavenSupper$World.copyFrom(LRavenSupper$World;)V
def k_56_0 : List Instr := [.aload 0, .aload 1, .getfield 500, .putfield 500, .aload 1, .getstatic 501, .bipush (0), .aload 0, .getstatic 501, .bipush (0), .bipush (6), .fmul, .aload 1, .getstatic 502, .bipush (0), .aload 0, .getstatic 502, .bipush (0), .bipush (6), .fmul, .bipush (0), .istore 2, .iload 2, .bipush (6), .if_icmp .ge (71), .aload 1, .getstatic 503, .iload 2, .aaload, .bipush (0), .aload 0, .getstatic 503, .iload 2, .aaload, .bipush (0), .bipush (6), .fmul, .iinc 2 (1), .goto (40)]
def k_56_40 : List Instr := [.iload 2, .bipush (6), .if_icmp .ge (71), .aload 1, .getstatic 503, .iload 2, .aaload, .bipush (0), .aload 0, .getstatic 503, .iload 2, .aaload, .bipush (0), .bipush (6), .fmul, .iinc 2 (1), .goto (40)]
def k_56_71 : List Instr := [.aload 1, .getstatic 504, .bipush (0), .aload 0, .getstatic 504, .bipush (0), .bipush (6), .fmul, .aload 1, .getstatic 505, .bipush (0), .aload 0, .getstatic 505, .bipush (0), .bipush (2), .fmul, .aload 1, .getstatic 506, .bipush (0), .aload 0, .getstatic 506, .bipush (0), .bipush (2), .fmul, .aload 0, .getstatic 507, .aload 1, .getstatic 507, .invokeinterface 4 144, .aload 0, .getstatic 508, .aload 1, .getstatic 508, .invokeinterface 8 145, .bipush (0), .istore 2, .iload 2, .bipush (8), .if_icmp .ge (165), .aload 0, .getstatic 509, .iload 2, .aaload, .aload 1, .getstatic 509, .iload 2, .aaload, .invokeinterface 8 145, .iinc 2 (1), .goto (138)]
def k_56_138 : List Instr := [.iload 2, .bipush (8), .if_icmp .ge (165), .aload 0, .getstatic 509, .iload 2, .aaload, .aload 1, .getstatic 509, .iload 2, .aaload, .invokeinterface 8 145, .iinc 2 (1), .goto (138)]
def k_56_165 : List Instr := [.aload 0, .aload 1, .getfield 510, .putfield 510, .return_]
theorem k_56_0_ok : okc 56 0 k_56_0 = true := by decide +kernel
theorem k_56_40_ok : okc 56 40 k_56_40 = true := by decide +kernel
theorem k_56_71_ok : okc 56 71 k_56_71 = true := by decide +kernel
theorem k_56_138_ok : okc 56 138 k_56_138 = true := by decide +kernel
theorem k_56_165_ok : okc 56 165 k_56_165 = true := by decide +kernel
-- 57: RavenSupper$World.isLand(I)Z
def k_57_0 : List Instr := [.iload 1, .bipush (0), .aload 0, .getfield 500, .bipush (1), .isub, .invokeinterface 120 192, .freturn]
theorem k_57_0_ok : okc 57 0 k_57_0 = true := by decide +kernel
-- 58: RavenSupper$World.areLands(I)Z
def k_58_0 : List Instr := [.iload 1, .bipush (0), .bipush (1), .aload 0, .getfield 500, .ishl, .bipush (1), .isub, .invokeinterface 120 192, .freturn]
theorem k_58_0_ok : okc 58 0 k_58_0 = true := by decide +kernel
-- 59: RavenSupper$World.isPair(II)Z
def k_59_0 : List Instr := [.aload 0, .iload 1, .invokeinterface 57 149, .ifCond .eq (25), .aload 0, .iload 2, .invokeinterface 57 149, .ifCond .eq (25), .iload 1, .iload 2, .if_icmp .eq (25), .bipush (1), .goto (26)]
def k_59_25 : List Instr := [.bipush (0), .freturn]
def k_59_26 : List Instr := [.freturn]
theorem k_59_0_ok : okc 59 0 k_59_0 = true := by decide +kernel
theorem k_59_25_ok : okc 59 25 k_59_25 = true := by decide +kernel
theorem k_59_26_ok : okc 59 26 k_59_26 = true := by decide +kernel
-- 60: RavenSupper$World.wayCount()I
def k_60_0 : List Instr := [.bipush (0), .istore 1, .bipush (0), .istore 2, .iload 2, .aload 0, .getfield 500, .if_icmp .ge (58), .iload 2, .bipush (1), .iadd, .istore 3, .iload 3, .aload 0, .getfield 500, .if_icmp .ge (52), .iload 1, .aload 0, .getstatic 503, .iload 2, .aaload, .iload 3, .iaload, .ifCond .le (40), .bipush (1), .goto (41)]
def k_60_4 : List Instr := [.iload 2, .aload 0, .getfield 500, .if_icmp .ge (58), .iload 2, .bipush (1), .iadd, .istore 3, .iload 3, .aload 0, .getfield 500, .if_icmp .ge (52), .iload 1, .aload 0, .getstatic 503, .iload 2, .aaload, .iload 3, .iaload, .ifCond .le (40), .bipush (1), .goto (41)]
def k_60_16 : List Instr := [.iload 3, .aload 0, .getfield 500, .if_icmp .ge (52), .iload 1, .aload 0, .getstatic 503, .iload 2, .aaload, .iload 3, .iaload, .ifCond .le (40), .bipush (1), .goto (41)]
def k_60_40 : List Instr := [.bipush (0), .invokeinterface 124 64, .iadd, .istore 1, .iinc 3 (1), .goto (16)]
def k_60_41 : List Instr := [.invokeinterface 124 64, .iadd, .istore 1, .iinc 3 (1), .goto (16)]
def k_60_52 : List Instr := [.iinc 2 (1), .goto (4)]
def k_60_58 : List Instr := [.iload 1, .ireturn]
theorem k_60_0_ok : okc 60 0 k_60_0 = true := by decide +kernel
theorem k_60_4_ok : okc 60 4 k_60_4 = true := by decide +kernel
theorem k_60_16_ok : okc 60 16 k_60_16 = true := by decide +kernel
theorem k_60_40_ok : okc 60 40 k_60_40 = true := by decide +kernel
theorem k_60_41_ok : okc 60 41 k_60_41 = true := by decide +kernel
theorem k_60_52_ok : okc 60 52 k_60_52 = true := by decide +kernel
theorem k_60_58_ok : okc 60 58 k_60_58 = true := by decide +kernel
-- 61: RavenSupper$World.measureFar()V
def k_61_0 : List Instr := [.bipush (0), .istore 1, .iload 1, .bipush (6), .if_icmp .ge (29), .aload 0, .getstatic 504, .iload 1, .iload 1, .ifCond .ne (21), .bipush (0), .goto (22)]
def k_61_2 : List Instr := [.iload 1, .bipush (6), .if_icmp .ge (29), .aload 0, .getstatic 504, .iload 1, .iload 1, .ifCond .ne (21), .bipush (0), .goto (22)]
def k_61_21 : List Instr := [.bipush (-1), .iastore, .iinc 1 (1), .goto (2)]
def k_61_22 : List Instr := [.iastore, .iinc 1 (1), .goto (2)]
def k_61_29 : List Instr := [.bipush (0), .istore 1, .iload 1, .aload 0, .getfield 500, .if_icmp .ge (66), .bipush (0), .istore 2, .iload 2, .aload 0, .getfield 500, .if_icmp .ge (60), .aload 0, .iload 2, .invokeinterface 62 149, .iinc 2 (1), .goto (41)]
def k_61_31 : List Instr := [.iload 1, .aload 0, .getfield 500, .if_icmp .ge (66), .bipush (0), .istore 2, .iload 2, .aload 0, .getfield 500, .if_icmp .ge (60), .aload 0, .iload 2, .invokeinterface 62 149, .iinc 2 (1), .goto (41)]
def k_61_41 : List Instr := [.iload 2, .aload 0, .getfield 500, .if_icmp .ge (60), .aload 0, .iload 2, .invokeinterface 62 149, .iinc 2 (1), .goto (41)]
def k_61_60 : List Instr := [.iinc 1 (1), .goto (31)]
def k_61_66 : List Instr := [.return_]
theorem k_61_0_ok : okc 61 0 k_61_0 = true := by decide +kernel
theorem k_61_2_ok : okc 61 2 k_61_2 = true := by decide +kernel
theorem k_61_21_ok : okc 61 21 k_61_21 = true := by decide +kernel
theorem k_61_22_ok : okc 61 22 k_61_22 = true := by decide +kernel
theorem k_61_29_ok : okc 61 29 k_61_29 = true := by decide +kernel
theorem k_61_31_ok : okc 61 31 k_61_31 = true := by decide +kernel
theorem k_61_41_ok : okc 61 41 k_61_41 = true := by decide +kernel
theorem k_61_60_ok : okc 61 60 k_61_60 = true := by decide +kernel
theorem k_61_66_ok : okc 61 66 k_61_66 = true := by decide +kernel
-- 62: RavenSupper$World.measureFrom(I)V
def k_62_0 : List Instr := [.bipush (0), .istore 2, .iload 2, .aload 0, .getfield 500, .if_icmp .ge (80), .aload 0, .getstatic 504, .iload 1, .iaload, .aload 0, .getstatic 503, .iload 1, .aaload, .iload 2, .iaload, .iadd, .istore 3, .aload 0, .getstatic 504, .iload 1, .iaload, .bipush (-1), .if_icmp .eq (74), .aload 0, .getstatic 503, .iload 1, .aaload, .iload 2, .iaload, .ifCond .le (74), .aload 0, .getstatic 504, .iload 2, .iaload, .bipush (-1), .if_icmp .eq (67), .iload 3, .aload 0, .getstatic 504, .iload 2, .iaload, .if_icmp .ge (74), .aload 0, .getstatic 504, .iload 2, .iload 3, .iastore, .iinc 2 (1), .goto (2)]
def k_62_2 : List Instr := [.iload 2, .aload 0, .getfield 500, .if_icmp .ge (80), .aload 0, .getstatic 504, .iload 1, .iaload, .aload 0, .getstatic 503, .iload 1, .aaload, .iload 2, .iaload, .iadd, .istore 3, .aload 0, .getstatic 504, .iload 1, .iaload, .bipush (-1), .if_icmp .eq (74), .aload 0, .getstatic 503, .iload 1, .aaload, .iload 2, .iaload, .ifCond .le (74), .aload 0, .getstatic 504, .iload 2, .iaload, .bipush (-1), .if_icmp .eq (67), .iload 3, .aload 0, .getstatic 504, .iload 2, .iaload, .if_icmp .ge (74), .aload 0, .getstatic 504, .iload 2, .iload 3, .iastore, .iinc 2 (1), .goto (2)]
def k_62_67 : List Instr := [.aload 0, .getstatic 504, .iload 2, .iload 3, .iastore, .iinc 2 (1), .goto (2)]
def k_62_74 : List Instr := [.iinc 2 (1), .goto (2)]
def k_62_80 : List Instr := [.return_]
theorem k_62_0_ok : okc 62 0 k_62_0 = true := by decide +kernel
theorem k_62_2_ok : okc 62 2 k_62_2 = true := by decide +kernel
theorem k_62_67_ok : okc 62 67 k_62_67 = true := by decide +kernel
theorem k_62_74_ok : okc 62 74 k_62_74 = true := by decide +kernel
theorem k_62_80_ok : okc 62 80 k_62_80 = true := by decide +kernel
-- 63: RavenSupper$World.isReached(II)Z
def k_63_0 : List Instr := [.aload 0, .getstatic 504, .iload 2, .iaload, .bipush (-1), .if_icmp .eq (31), .bipush (2), .aload 0, .getstatic 504, .iload 2, .iaload, .imul, .aload 0, .getstatic 505, .iload 1, .iaload, .if_icmp .gt (31), .bipush (1), .goto (32)]
def k_63_31 : List Instr := [.bipush (0), .freturn]
def k_63_32 : List Instr := [.freturn]
theorem k_63_0_ok : okc 63 0 k_63_0 = true := by decide +kernel
theorem k_63_31_ok : okc 63 31 k_63_31 = true := by decide +kernel
theorem k_63_32_ok : okc 63 32 k_63_32 = true := by decide +kernel
-- 64: RavenSupper$World.reachedLands(I)I
def k_64_0 : List Instr := [.bipush (0), .istore 2, .bipush (0), .istore 3, .iload 3, .aload 0, .getfield 500, .if_icmp .ge (32), .iload 2, .aload 0, .iload 1, .iload 3, .invokeinterface 63 213, .invokeinterface 124 64, .iload 3, .ishl, .ior, .istore 2, .iinc 3 (1), .goto (4)]
def k_64_4 : List Instr := [.iload 3, .aload 0, .getfield 500, .if_icmp .ge (32), .iload 2, .aload 0, .iload 1, .iload 3, .invokeinterface 63 213, .invokeinterface 124 64, .iload 3, .ishl, .ior, .istore 2, .iinc 3 (1), .goto (4)]
def k_64_32 : List Instr := [.iload 2, .ireturn]
theorem k_64_0_ok : okc 64 0 k_64_0 = true := by decide +kernel
theorem k_64_4_ok : okc 64 4 k_64_4 = true := by decide +kernel
theorem k_64_32_ok : okc 64 32 k_64_32 = true := by decide +kernel
-- 65: RavenSupper$World.plainSureness(II)I
def k_65_0 : List Instr := [.aload 0, .getstatic 506, .iload 1, .iaload, .istore 3, .iload 3, .ifCond .ne (15), .bipush (0), .goto (23)]
def k_65_15 : List Instr := [.aload 0, .getstatic 504, .iload 2, .iaload, .iload 3, .idiv, .istore 4, .bipush (16), .iload 4, .invokeinterface 28 128, .ireturn]
def k_65_23 : List Instr := [.istore 4, .bipush (16), .iload 4, .invokeinterface 28 128, .ireturn]
theorem k_65_0_ok : okc 65 0 k_65_0 = true := by decide +kernel
theorem k_65_15_ok : okc 65 15 k_65_15 = true := by decide +kernel
theorem k_65_23_ok : okc 65 23 k_65_23 = true := by decide +kernel
-- 66: RavenSupper$World.sureness(III)I
def k_66_0 : List Instr := [.iload 3, .aload 0, .iload 1, .iload 2, .invokeinterface 65 213, .invokeinterface 27 128, .ireturn]
theorem k_66_0_ok : okc 66 0 k_66_0 = true := by decide +kernel
-- 67: RavenSupper$World.flightWorth(II)I
def k_67_0 : List Instr := [.aload 0, .getstatic 508, .getstatic 101, .iload 2, .iaload, .aload 0, .iload 1, .iload 2, .invokeinterface 65 213, .invokeinterface 26 128, .ireturn]
theorem k_67_0_ok : okc 67 0 k_67_0 = true := by decide +kernel
-- 68: RavenSupper$World.daysLater(III)I
def k_68_0 : List Instr := [.iload 2, .istore 4, .bipush (0), .istore 5, .iload 5, .iload 3, .if_icmp .ge (37), .iload 4, .aload 0, .getstatic 501, .iload 1, .iaload, .aload 0, .getstatic 502, .iload 1, .iaload, .invokeinterface 21 192, .istore 4, .iinc 5 (1), .goto (6)]
def k_68_6 : List Instr := [.iload 5, .iload 3, .if_icmp .ge (37), .iload 4, .aload 0, .getstatic 501, .iload 1, .iaload, .aload 0, .getstatic 502, .iload 1, .iaload, .invokeinterface 21 192, .istore 4, .iinc 5 (1), .goto (6)]
def k_68_37 : List Instr := [.iload 4, .ireturn]
theorem k_68_0_ok : okc 68 0 k_68_0 = true := by decide +kernel
theorem k_68_6_ok : okc 68 6 k_68_6 = true := by decide +kernel
theorem k_68_37_ok : okc 68 37 k_68_37 = true := by decide +kernel
-- 69: RavenSupper$World.doubtTomorrow(II)I
def k_69_0 : List Instr := [.aload 0, .iload 1, .iload 2, .bipush (1), .invokeinterface 68 277, .invokeinterface 22 64, .ireturn]
theorem k_69_0_ok : okc 69 0 k_69_0 = true := by decide +kernel
-- 70: RavenSupper$World.passEvening()I
def k_70_0 : List Instr := [.aload 0, .invokeinterface 72 85, .bipush (0), .istore 1, .iload 1, .bipush (2), .if_icmp .ge (56), .aload 0, .aload 0, .getstatic 508, .getstatic 102, .iload 1, .iaload, .invokeinterface 57 149, .ifCond .eq (50), .aload 0, .iload 1, .aload 0, .getstatic 508, .getstatic 102, .iload 1, .iaload, .aload 0, .getstatic 508, .getstatic 103, .iload 1, .iaload, .invokeinterface 71 277, .iinc 1 (1), .goto (6)]
def k_70_6 : List Instr := [.iload 1, .bipush (2), .if_icmp .ge (56), .aload 0, .aload 0, .getstatic 508, .getstatic 102, .iload 1, .iaload, .invokeinterface 57 149, .ifCond .eq (50), .aload 0, .iload 1, .aload 0, .getstatic 508, .getstatic 102, .iload 1, .iaload, .aload 0, .getstatic 508, .getstatic 103, .iload 1, .iaload, .invokeinterface 71 277, .iinc 1 (1), .goto (6)]
def k_70_50 : List Instr := [.iinc 1 (1), .goto (6)]
def k_70_56 : List Instr := [.bipush (0), .istore 1, .iload 1, .aload 0, .getfield 500, .if_icmp .ge (96), .aload 0, .getstatic 508, .getstatic 101, .iload 1, .aload 0, .iload 1, .aload 0, .getstatic 508, .getstatic 101, .iload 1, .iaload, .bipush (1), .invokeinterface 68 277, .iastore, .iinc 1 (1), .goto (58)]
def k_70_58 : List Instr := [.iload 1, .aload 0, .getfield 500, .if_icmp .ge (96), .aload 0, .getstatic 508, .getstatic 101, .iload 1, .aload 0, .iload 1, .aload 0, .getstatic 508, .getstatic 101, .iload 1, .iaload, .bipush (1), .invokeinterface 68 277, .iastore, .iinc 1 (1), .goto (58)]
def k_70_96 : List Instr := [.aload 0, .getstatic 508, .invokeinterface 7 81, .aload 0, .getstatic 508, .dup, .getfield 100, .bipush (1), .iadd, .putfield 100, .aload 0, .getstatic 508, .getfield 100, .ireturn]
theorem k_70_0_ok : okc 70 0 k_70_0 = true := by decide +kernel
theorem k_70_6_ok : okc 70 6 k_70_6 = true := by decide +kernel
theorem k_70_50_ok : okc 70 50 k_70_50 = true := by decide +kernel
theorem k_70_56_ok : okc 70 56 k_70_56 = true := by decide +kernel
theorem k_70_58_ok : okc 70 58 k_70_58 = true := by decide +kernel
theorem k_70_96_ok : okc 70 96 k_70_96 = true := by decide +kernel
-- 71: RavenSupper$World.believe(III)V
def k_71_0 : List Instr := [.aload 0, .iload 1, .iload 2, .iload 3, .invokeinterface 66 277, .istore 4, .aload 0, .getstatic 508, .getstatic 101, .iload 2, .iaload, .iload 4, .aload 0, .getstatic 508, .getstatic 104, .iload 1, .baload, .invokeinterface 24 192, .istore 5, .aload 0, .getstatic 508, .getstatic 101, .iload 2, .aload 0, .iload 2, .iload 5, .iload 3, .invokeinterface 29 64, .invokeinterface 68 277, .iastore, .return_]
theorem k_71_0_ok : okc 71 0 k_71_0 = true := by decide +kernel
-- 72: RavenSupper$World.keepTonight()V
def k_72_0 : List Instr := [.aload 0, .getfield 510, .bipush (8), .if_icmp .lt (46), .bipush (1), .istore 1, .iload 1, .bipush (8), .if_icmp .ge (40), .aload 0, .getstatic 509, .iload 1, .bipush (1), .isub, .aaload, .aload 0, .getstatic 509, .iload 1, .aaload, .invokeinterface 8 145, .iinc 1 (1), .goto (11)]
def k_72_11 : List Instr := [.iload 1, .bipush (8), .if_icmp .ge (40), .aload 0, .getstatic 509, .iload 1, .bipush (1), .isub, .aaload, .aload 0, .getstatic 509, .iload 1, .aaload, .invokeinterface 8 145, .iinc 1 (1), .goto (11)]
def k_72_40 : List Instr := [.aload 0, .bipush (7), .putfield 510, .aload 0, .getstatic 509, .aload 0, .getfield 510, .aaload, .aload 0, .getstatic 508, .invokeinterface 8 145, .aload 0, .dup, .getfield 510, .bipush (1), .iadd, .putfield 510, .return_]
def k_72_46 : List Instr := [.aload 0, .getstatic 509, .aload 0, .getfield 510, .aaload, .aload 0, .getstatic 508, .invokeinterface 8 145, .aload 0, .dup, .getfield 510, .bipush (1), .iadd, .putfield 510, .return_]
theorem k_72_0_ok : okc 72 0 k_72_0 = true := by decide +kernel
theorem k_72_11_ok : okc 72 11 k_72_11 = true := by decide +kernel
theorem k_72_40_ok : okc 72 40 k_72_40 = true := by decide +kernel
theorem k_72_46_ok : okc 72 46 k_72_46 = true := by decide +kernel
-- 73: RavenSupper$World.takeBackEvening()I
def k_73_0 : List Instr := [.aload 0, .getfield 510, .ifCond .ne (10), .bipush (-3), .ireturn]
def k_73_10 : List Instr := [.aload 0, .dup, .getfield 510, .bipush (1), .isub, .putfield 510, .aload 0, .getstatic 508, .aload 0, .getstatic 509, .aload 0, .getfield 510, .aaload, .invokeinterface 8 145, .bipush (1), .ireturn]
theorem k_73_0_ok : okc 73 0 k_73_0 = true := by decide +kernel
theorem k_73_10_ok : okc 73 10 k_73_10 = true := by decide +kernel
-- 74: RavenSupper$World.warMornings(II)I
def k_74_0 : List Instr := [.iload 2, .i2l, .lstore 3, .bipush (0), .istore 5, .bipush (0), .istore 6, .bipush (0), .istore 7, .iload 7, .iload 1, .if_icmp .ge (120), .bipush (0), .istore 8, .iload 8, .aload 0, .getfield 500, .if_icmp .ge (104), .lload 3, .sipush (1103515245), .lmul, .sipush (12345), .ladd, .sipush (2147483648), .lrem, .lstore 3, .iload 5, .iload 8, .invokeinterface 123 128, .ifCond .eq (64), .aload 0, .getstatic 502, .iload 8, .iaload, .goto (71)]
def k_74_12 : List Instr := [.iload 7, .iload 1, .if_icmp .ge (120), .bipush (0), .istore 8, .iload 8, .aload 0, .getfield 500, .if_icmp .ge (104), .lload 3, .sipush (1103515245), .lmul, .sipush (12345), .ladd, .sipush (2147483648), .lrem, .lstore 3, .iload 5, .iload 8, .invokeinterface 123 128, .ifCond .eq (64), .aload 0, .getstatic 502, .iload 8, .iaload, .goto (71)]
def k_74_21 : List Instr := [.iload 8, .aload 0, .getfield 500, .if_icmp .ge (104), .lload 3, .sipush (1103515245), .lmul, .sipush (12345), .ladd, .sipush (2147483648), .lrem, .lstore 3, .iload 5, .iload 8, .invokeinterface 123 128, .ifCond .eq (64), .aload 0, .getstatic 502, .iload 8, .iaload, .goto (71)]
def k_74_64 : List Instr := [.aload 0, .getstatic 501, .iload 8, .iaload, .istore 9, .lload 3, .sipush (65536), .ldiv, .sipush (16), .lrem, .iload 9, .i2l, .lcmp, .ifCond .ge (98), .iload 5, .bipush (1), .iload 8, .ishl, .ixor, .istore 5, .iinc 8 (1), .goto (21)]
def k_74_71 : List Instr := [.istore 9, .lload 3, .sipush (65536), .ldiv, .sipush (16), .lrem, .iload 9, .i2l, .lcmp, .ifCond .ge (98), .iload 5, .bipush (1), .iload 8, .ishl, .ixor, .istore 5, .iinc 8 (1), .goto (21)]
def k_74_98 : List Instr := [.iinc 8 (1), .goto (21)]
def k_74_104 : List Instr := [.iload 6, .iload 5, .invokeinterface 211 64, .iadd, .istore 6, .iinc 7 (1), .goto (12)]
def k_74_120 : List Instr := [.iload 6, .ireturn]
theorem k_74_0_ok : okc 74 0 k_74_0 = true := by decide +kernel
theorem k_74_12_ok : okc 74 12 k_74_12 = true := by decide +kernel
theorem k_74_21_ok : okc 74 21 k_74_21 = true := by decide +kernel
theorem k_74_64_ok : okc 74 64 k_74_64 = true := by decide +kernel
theorem k_74_71_ok : okc 74 71 k_74_71 = true := by decide +kernel
theorem k_74_98_ok : okc 74 98 k_74_98 = true := by decide +kernel
theorem k_74_104_ok : okc 74 104 k_74_104 = true := by decide +kernel
theorem k_74_120_ok : okc 74 120 k_74_120 = true := by decide +kernel
-- 75: RavenSupper$World.digestFrom(J)J
def k_75_0 : List Instr := [.lload 1, .lstore 3, .bipush (0), .istore 5, .iload 5, .aload 0, .getfield 500, .if_icmp .ge (68), .sipush (31), .lload 3, .lmul, .aload 0, .getstatic 508, .getstatic 101, .iload 5, .iaload, .i2l, .ladd, .lstore 3, .sipush (31), .lload 3, .lmul, .aload 0, .getstatic 501, .iload 5, .iaload, .i2l, .ladd, .lstore 3, .sipush (31), .lload 3, .lmul, .aload 0, .getstatic 502, .iload 5, .iaload, .i2l, .ladd, .lstore 3, .iinc 5 (1), .goto (5)]
def k_75_5 : List Instr := [.iload 5, .aload 0, .getfield 500, .if_icmp .ge (68), .sipush (31), .lload 3, .lmul, .aload 0, .getstatic 508, .getstatic 101, .iload 5, .iaload, .i2l, .ladd, .lstore 3, .sipush (31), .lload 3, .lmul, .aload 0, .getstatic 501, .iload 5, .iaload, .i2l, .ladd, .lstore 3, .sipush (31), .lload 3, .lmul, .aload 0, .getstatic 502, .iload 5, .iaload, .i2l, .ladd, .lstore 3, .iinc 5 (1), .goto (5)]
def k_75_68 : List Instr := [.bipush (0), .istore 5, .iload 5, .aload 0, .getfield 500, .if_icmp .ge (125), .iload 5, .bipush (1), .iadd, .istore 6, .iload 6, .aload 0, .getfield 500, .if_icmp .ge (119), .sipush (31), .lload 3, .lmul, .aload 0, .getstatic 503, .iload 5, .aaload, .iload 6, .iaload, .i2l, .ladd, .lstore 3, .iinc 6 (1), .goto (86)]
def k_75_71 : List Instr := [.iload 5, .aload 0, .getfield 500, .if_icmp .ge (125), .iload 5, .bipush (1), .iadd, .istore 6, .iload 6, .aload 0, .getfield 500, .if_icmp .ge (119), .sipush (31), .lload 3, .lmul, .aload 0, .getstatic 503, .iload 5, .aaload, .iload 6, .iaload, .i2l, .ladd, .lstore 3, .iinc 6 (1), .goto (86)]
def k_75_86 : List Instr := [.iload 6, .aload 0, .getfield 500, .if_icmp .ge (119), .sipush (31), .lload 3, .lmul, .aload 0, .getstatic 503, .iload 5, .aaload, .iload 6, .iaload, .i2l, .ladd, .lstore 3, .iinc 6 (1), .goto (86)]
def k_75_119 : List Instr := [.iinc 5 (1), .goto (71)]
def k_75_125 : List Instr := [.bipush (0), .istore 5, .iload 5, .bipush (2), .if_icmp .ge (227), .sipush (31), .lload 3, .lmul, .aload 0, .getstatic 505, .iload 5, .iaload, .i2l, .ladd, .lstore 3, .sipush (31), .lload 3, .lmul, .aload 0, .getstatic 506, .iload 5, .iaload, .i2l, .ladd, .lstore 3, .sipush (31), .lload 3, .lmul, .aload 0, .getstatic 508, .getstatic 102, .iload 5, .iaload, .i2l, .ladd, .lstore 3, .sipush (31), .lload 3, .lmul, .aload 0, .getstatic 508, .getstatic 103, .iload 5, .iaload, .i2l, .ladd, .lstore 3, .sipush (31), .lload 3, .lmul, .aload 0, .getstatic 508, .getstatic 104, .iload 5, .baload, .invokeinterface 124 64, .i2l, .ladd, .lstore 3, .iinc 5 (1), .goto (128)]
def k_75_128 : List Instr := [.iload 5, .bipush (2), .if_icmp .ge (227), .sipush (31), .lload 3, .lmul, .aload 0, .getstatic 505, .iload 5, .iaload, .i2l, .ladd, .lstore 3, .sipush (31), .lload 3, .lmul, .aload 0, .getstatic 506, .iload 5, .iaload, .i2l, .ladd, .lstore 3, .sipush (31), .lload 3, .lmul, .aload 0, .getstatic 508, .getstatic 102, .iload 5, .iaload, .i2l, .ladd, .lstore 3, .sipush (31), .lload 3, .lmul, .aload 0, .getstatic 508, .getstatic 103, .iload 5, .iaload, .i2l, .ladd, .lstore 3, .sipush (31), .lload 3, .lmul, .aload 0, .getstatic 508, .getstatic 104, .iload 5, .baload, .invokeinterface 124 64, .i2l, .ladd, .lstore 3, .iinc 5 (1), .goto (128)]
def k_75_227 : List Instr := [.bipush (0), .istore 5, .iload 5, .aload 0, .getstatic 507, .getfield 0, .if_icmp .ge (305), .sipush (31), .lload 3, .lmul, .aload 0, .getstatic 507, .getstatic 1, .iload 5, .iaload, .i2l, .ladd, .lstore 3, .sipush (31), .lload 3, .lmul, .aload 0, .getstatic 507, .getstatic 2, .iload 5, .iaload, .i2l, .ladd, .lstore 3, .sipush (31), .lload 3, .lmul, .aload 0, .getstatic 507, .getstatic 3, .iload 5, .baload, .invokeinterface 124 64, .i2l, .ladd, .lstore 3, .iinc 5 (1), .goto (230)]
def k_75_230 : List Instr := [.iload 5, .aload 0, .getstatic 507, .getfield 0, .if_icmp .ge (305), .sipush (31), .lload 3, .lmul, .aload 0, .getstatic 507, .getstatic 1, .iload 5, .iaload, .i2l, .ladd, .lstore 3, .sipush (31), .lload 3, .lmul, .aload 0, .getstatic 507, .getstatic 2, .iload 5, .iaload, .i2l, .ladd, .lstore 3, .sipush (31), .lload 3, .lmul, .aload 0, .getstatic 507, .getstatic 3, .iload 5, .baload, .invokeinterface 124 64, .i2l, .ladd, .lstore 3, .iinc 5 (1), .goto (230)]
def k_75_305 : List Instr := [.lload 3, .lreturn]
theorem k_75_0_ok : okc 75 0 k_75_0 = true := by decide +kernel
theorem k_75_5_ok : okc 75 5 k_75_5 = true := by decide +kernel
theorem k_75_68_ok : okc 75 68 k_75_68 = true := by decide +kernel
theorem k_75_71_ok : okc 75 71 k_75_71 = true := by decide +kernel
theorem k_75_86_ok : okc 75 86 k_75_86 = true := by decide +kernel
theorem k_75_119_ok : okc 75 119 k_75_119 = true := by decide +kernel
theorem k_75_125_ok : okc 75 125 k_75_125 = true := by decide +kernel
theorem k_75_128_ok : okc 75 128 k_75_128 = true := by decide +kernel
theorem k_75_227_ok : okc 75 227 k_75_227 = true := by decide +kernel
theorem k_75_230_ok : okc 75 230 k_75_230 = true := by decide +kernel
theorem k_75_305_ok : okc 75 305 k_75_305 = true := by decide +kernel
-- 76: RavenSupper.world(I)I
def k_76_0 : List Instr := [.aload 0, .aload 0, .getstatic 600, .iload 1, .invokeinterface 49 149, .invokeinterface 118 150, .ireturn]
theorem k_76_0_ok : okc 76 0 k_76_0 = true := by decide +kernel
-- 77: RavenSupper.belief(II)I
def k_77_0 : List Instr := [.aload 0, .aload 0, .getstatic 600, .iload 1, .iload 2, .invokeinterface 50 213, .invokeinterface 118 150, .ireturn]
theorem k_77_0_ok : okc 77 0 k_77_0 = true := by decide +kernel
-- 78: RavenSupper.change(III)I
def k_78_0 : List Instr := [.aload 0, .aload 0, .getstatic 600, .iload 1, .iload 2, .iload 3, .invokeinterface 51 277, .invokeinterface 118 150, .ireturn]
theorem k_78_0_ok : okc 78 0 k_78_0 = true := by decide +kernel
-- 79: RavenSupper.way(III)I
def k_79_0 : List Instr := [.aload 0, .aload 0, .getstatic 600, .iload 1, .iload 2, .iload 3, .invokeinterface 52 277, .invokeinterface 118 150, .ireturn]
theorem k_79_0_ok : okc 79 0 k_79_0 = true := by decide +kernel
-- 80: RavenSupper.bird(III)I
def k_80_0 : List Instr := [.aload 0, .aload 0, .getstatic 600, .iload 1, .iload 2, .iload 3, .invokeinterface 53 277, .invokeinterface 118 150, .ireturn]
theorem k_80_0_ok : okc 80 0 k_80_0 = true := by decide +kernel
-- 81: RavenSupper.type(I)I
def k_81_0 : List Instr := [.aload 0, .aload 0, .getstatic 604, .iload 1, .invokeinterface 36 148, .invokeinterface 118 150, .ireturn]
theorem k_81_0_ok : okc 81 0 k_81_0 = true := by decide +kernel
-- 82: RavenSupper.clear()I
def k_82_0 : List Instr := [.aload 0, .getstatic 604, .invokeinterface 37 84, .ireturn]
theorem k_82_0_ok : okc 82 0 k_82_0 = true := by decide +kernel
-- 83: RavenSupper.read()I
def k_83_0 : List Instr := [.aload 0, .getstatic 604, .aload 0, .getstatic 601, .invokeinterface 38 148, .istore 1, .iload 1, .ifCond .le (27), .aload 0, .getstatic 600, .aload 0, .getstatic 601, .invokeinterface 56 149, .iload 1, .ireturn]
def k_83_27 : List Instr := [.iload 1, .ireturn]
theorem k_83_0_ok : okc 83 0 k_83_0 = true := by decide +kernel
theorem k_83_27_ok : okc 83 27 k_83_27 = true := by decide +kernel
-- 84: RavenSupper.tell(IIIZ)I
def k_84_0 : List Instr := [.aload 0, .iload 1, .iload 2, .iload 3, .bipush (0), .invokeinterface 90 342, .istore 5, .iload 5, .ifCond .lt (30), .aload 0, .getstatic 600, .getstatic 508, .iload 1, .iload 2, .iload 3, .iload 4, .invokeinterface 6 337, .iload 5, .ireturn]
def k_84_30 : List Instr := [.iload 5, .ireturn]
theorem k_84_0_ok : okc 84 0 k_84_0 = true := by decide +kernel
theorem k_84_30_ok : okc 84 30 k_84_30 = true := by decide +kernel
-- 85: RavenSupper.evening()I
def k_85_0 : List Instr := [.aload 0, .getstatic 600, .getstatic 508, .getfield 100, .bipush (900), .if_icmp .lt (23), .aload 0, .bipush (-3), .invokeinterface 118 150, .ireturn]
def k_85_23 : List Instr := [.aload 0, .getstatic 600, .invokeinterface 70 85, .ireturn]
theorem k_85_0_ok : okc 85 0 k_85_0 = true := by decide +kernel
theorem k_85_23_ok : okc 85 23 k_85_23 = true := by decide +kernel
-- 86: RavenSupper.undo()I
def k_86_0 : List Instr := [.aload 0, .aload 0, .getstatic 600, .invokeinterface 73 85, .invokeinterface 118 150, .ireturn]
theorem k_86_0_ok : okc 86 0 k_86_0 = true := by decide +kernel
-- 87: RavenSupper.of(II)I
def k_87_0 : List Instr := [.aload 0, .getstatic 600, .iload 1, .invokeinterface 57 149, .ifCond .ne (18), .aload 0, .bipush (-2), .invokeinterface 118 150, .ireturn]
def k_87_18 : List Instr := [.iload 2, .tableswitch 111 (0) (4) #[52, 65, 75, 85, 101]]
def k_87_52 : List Instr := [.aload 0, .getstatic 600, .getstatic 508, .getstatic 101, .iload 1, .iaload, .ireturn]
def k_87_65 : List Instr := [.aload 0, .getstatic 600, .getstatic 501, .iload 1, .iaload, .ireturn]
def k_87_75 : List Instr := [.aload 0, .getstatic 600, .getstatic 502, .iload 1, .iaload, .ireturn]
def k_87_85 : List Instr := [.aload 0, .getstatic 600, .getstatic 508, .getstatic 101, .iload 1, .iaload, .invokeinterface 22 64, .ireturn]
def k_87_101 : List Instr := [.aload 0, .getstatic 600, .getstatic 504, .iload 1, .iaload, .ireturn]
def k_87_111 : List Instr := [.aload 0, .bipush (-2), .invokeinterface 118 150, .ireturn]
theorem k_87_0_ok : okc 87 0 k_87_0 = true := by decide +kernel
theorem k_87_18_ok : okc 87 18 k_87_18 = true := by decide +kernel
theorem k_87_52_ok : okc 87 52 k_87_52 = true := by decide +kernel
theorem k_87_65_ok : okc 87 65 k_87_65 = true := by decide +kernel
theorem k_87_75_ok : okc 87 75 k_87_75 = true := by decide +kernel
theorem k_87_85_ok : okc 87 85 k_87_85 = true := by decide +kernel
theorem k_87_101_ok : okc 87 101 k_87_101 = true := by decide +kernel
theorem k_87_111_ok : okc 87 111 k_87_111 = true := by decide +kernel
-- 88: RavenSupper.about(II)I
def k_88_0 : List Instr := [.iload 1, .invokeinterface 121 64, .ifCond .ne (14), .aload 0, .bipush (-2), .invokeinterface 118 150, .ireturn]
def k_88_14 : List Instr := [.iload 2, .tableswitch 86 (0) (3) #[44, 54, 64, 73]]
def k_88_44 : List Instr := [.aload 0, .getstatic 600, .getstatic 505, .iload 1, .iaload, .ireturn]
def k_88_54 : List Instr := [.aload 0, .getstatic 600, .getstatic 506, .iload 1, .iaload, .ireturn]
def k_88_64 : List Instr := [.aload 0, .getstatic 600, .iload 1, .invokeinterface 64 149, .ireturn]
def k_88_73 : List Instr := [.aload 0, .getstatic 600, .getstatic 508, .getstatic 102, .iload 1, .iaload, .ireturn]
def k_88_86 : List Instr := [.aload 0, .bipush (-2), .invokeinterface 118 150, .ireturn]
theorem k_88_0_ok : okc 88 0 k_88_0 = true := by decide +kernel
theorem k_88_14_ok : okc 88 14 k_88_14 = true := by decide +kernel
theorem k_88_44_ok : okc 88 44 k_88_44 = true := by decide +kernel
theorem k_88_54_ok : okc 88 54 k_88_54 = true := by decide +kernel
theorem k_88_64_ok : okc 88 64 k_88_64 = true := by decide +kernel
theorem k_88_73_ok : okc 88 73 k_88_73 = true := by decide +kernel
theorem k_88_86_ok : okc 88 86 k_88_86 = true := by decide +kernel
-- 89: RavenSupper.hours(II)I
def k_89_0 : List Instr := [.aload 0, .getstatic 600, .iload 1, .iload 2, .invokeinterface 59 213, .ifCond .ne (19), .aload 0, .bipush (-2), .invokeinterface 118 150, .ireturn]
def k_89_19 : List Instr := [.aload 0, .getstatic 600, .getstatic 503, .iload 1, .aaload, .iload 2, .iaload, .ireturn]
theorem k_89_0_ok : okc 89 0 k_89_0 = true := by decide +kernel
theorem k_89_19_ok : okc 89 19 k_89_19 = true := by decide +kernel
-- 90: RavenSupper.sure(IIII)I
def k_90_0 : List Instr := [.iload 1, .invokeinterface 121 64, .ifCond .eq (37), .aload 0, .getstatic 600, .iload 2, .invokeinterface 57 149, .ifCond .eq (37), .iload 3, .bipush (0), .bipush (5), .invokeinterface 120 192, .ifCond .eq (37), .iload 4, .bipush (0), .bipush (1), .invokeinterface 120 192, .ifCond .ne (44), .aload 0, .bipush (-2), .invokeinterface 118 150, .ireturn]
def k_90_37 : List Instr := [.aload 0, .bipush (-2), .invokeinterface 118 150, .ireturn]
def k_90_44 : List Instr := [.aload 0, .getstatic 600, .iload 1, .iload 2, .invokeinterface 63 213, .ifCond .ne (63), .aload 0, .bipush (-3), .invokeinterface 118 150, .ireturn]
def k_90_63 : List Instr := [.iload 4, .ifCond .ne (81), .aload 0, .getstatic 600, .iload 1, .iload 2, .iload 3, .invokeinterface 66 277, .goto (85)]
def k_90_81 : List Instr := [.iload 3, .invokeinterface 29 64, .ireturn]
def k_90_85 : List Instr := [.ireturn]
theorem k_90_0_ok : okc 90 0 k_90_0 = true := by decide +kernel
theorem k_90_37_ok : okc 90 37 k_90_37 = true := by decide +kernel
theorem k_90_44_ok : okc 90 44 k_90_44 = true := by decide +kernel
theorem k_90_63_ok : okc 90 63 k_90_63 = true := by decide +kernel
theorem k_90_81_ok : okc 90 81 k_90_81 = true := by decide +kernel
theorem k_90_85_ok : okc 90 85 k_90_85 = true := by decide +kernel
-- 91: RavenSupper.ahead(II)I
def k_91_0 : List Instr := [.aload 0, .getstatic 600, .iload 1, .invokeinterface 57 149, .ifCond .eq (21), .iload 2, .bipush (0), .bipush (30), .invokeinterface 120 192, .ifCond .ne (28), .aload 0, .bipush (-2), .invokeinterface 118 150, .ireturn]
def k_91_21 : List Instr := [.aload 0, .bipush (-2), .invokeinterface 118 150, .ireturn]
def k_91_28 : List Instr := [.aload 0, .getstatic 600, .iload 1, .aload 0, .getstatic 600, .getstatic 508, .getstatic 101, .iload 1, .iaload, .iload 2, .invokeinterface 68 277, .ireturn]
theorem k_91_0_ok : okc 91 0 k_91_0 = true := by decide +kernel
theorem k_91_21_ok : okc 91 21 k_91_21 = true := by decide +kernel
theorem k_91_28_ok : okc 91 28 k_91_28 = true := by decide +kernel
-- 92: RavenSupper.worth(II)I
def k_92_0 : List Instr := [.iload 1, .invokeinterface 121 64, .ifCond .eq (18), .aload 0, .getstatic 600, .iload 2, .invokeinterface 57 149, .ifCond .ne (27), .aload 0, .bipush (-2), .bipush (-100000), .invokeinterface 119 214, .ireturn]
def k_92_18 : List Instr := [.aload 0, .bipush (-2), .bipush (-100000), .invokeinterface 119 214, .ireturn]
def k_92_27 : List Instr := [.aload 0, .getstatic 600, .iload 1, .iload 2, .invokeinterface 63 213, .ifCond .ne (48), .aload 0, .bipush (-3), .bipush (-200000), .invokeinterface 119 214, .ireturn]
def k_92_48 : List Instr := [.aload 0, .getstatic 600, .iload 1, .iload 2, .invokeinterface 67 213, .ireturn]
theorem k_92_0_ok : okc 92 0 k_92_0 = true := by decide +kernel
theorem k_92_18_ok : okc 92 18 k_92_18 = true := by decide +kernel
theorem k_92_27_ok : okc 92 27 k_92_27 = true := by decide +kernel
theorem k_92_48_ok : okc 92 48 k_92_48 = true := by decide +kernel
-- 93: RavenSupper.send(II)I
def k_93_0 : List Instr := [.aload 0, .getstatic 600, .iload 1, .invokeinterface 58 149, .ifCond .eq (20), .iload 2, .bipush (0), .bipush (1), .invokeinterface 120 192, .ifCond .ne (27), .aload 0, .bipush (-2), .invokeinterface 118 150, .ireturn]
def k_93_20 : List Instr := [.aload 0, .bipush (-2), .invokeinterface 118 150, .ireturn]
def k_93_27 : List Instr := [.aload 0, .getstatic 605, .aload 0, .getstatic 600, .iload 1, .invokeinterface 9 210, .istore 3, .iload 2, .ifCond .ne (48), .iload 3, .goto (56)]
def k_93_48 : List Instr := [.aload 0, .getstatic 605, .iload 3, .invokeinterface 10 146, .ireturn]
def k_93_56 : List Instr := [.ireturn]
theorem k_93_0_ok : okc 93 0 k_93_0 = true := by decide +kernel
theorem k_93_20_ok : okc 93 20 k_93_20 = true := by decide +kernel
theorem k_93_27_ok : okc 93 27 k_93_27 = true := by decide +kernel
theorem k_93_48_ok : okc 93 48 k_93_48 = true := by decide +kernel
theorem k_93_56_ok : okc 93 56 k_93_56 = true := by decide +kernel
-- 94: RavenSupper.third(I)I
def k_94_0 : List Instr := [.aload 0, .getstatic 600, .iload 1, .invokeinterface 58 149, .ifCond .ne (18), .aload 0, .bipush (-2), .invokeinterface 118 150, .ireturn]
def k_94_18 : List Instr := [.aload 0, .getstatic 605, .aload 0, .getstatic 605, .aload 0, .getstatic 600, .iload 1, .invokeinterface 9 210, .invokeinterface 11 146, .ireturn]
theorem k_94_0_ok : okc 94 0 k_94_0 = true := by decide +kernel
theorem k_94_18_ok : okc 94 18 k_94_18 = true := by decide +kernel
-- 95: RavenSupper.plan(III)I
def k_95_0 : List Instr := [.iload 1, .bipush (1), .bipush (2), .invokeinterface 120 192, .ifCond .eq (25), .aload 0, .getstatic 600, .iload 2, .invokeinterface 58 149, .ifCond .eq (25), .iload 3, .bipush (-1), .if_icmp .ge (34), .aload 0, .bipush (-2), .bipush (-10), .invokeinterface 119 214, .ireturn]
def k_95_25 : List Instr := [.aload 0, .bipush (-2), .bipush (-10), .invokeinterface 119 214, .ireturn]
def k_95_34 : List Instr := [.iload 3, .iload 1, .if_icmp .lt (42), .bipush (-5), .ireturn]
def k_95_42 : List Instr := [.aload 0, .getstatic 605, .aload 0, .getstatic 600, .iload 2, .iload 1, .invokeinterface 17 274, .iload 3, .bipush (-1), .if_icmp .ne (70), .aload 0, .getstatic 605, .getfield 204, .goto (79)]
def k_95_70 : List Instr := [.aload 0, .getstatic 605, .getstatic 203, .iload 3, .iaload, .ireturn]
def k_95_79 : List Instr := [.ireturn]
theorem k_95_0_ok : okc 95 0 k_95_0 = true := by decide +kernel
theorem k_95_25_ok : okc 95 25 k_95_25 = true := by decide +kernel
theorem k_95_34_ok : okc 95 34 k_95_34 = true := by decide +kernel
theorem k_95_42_ok : okc 95 42 k_95_42 = true := by decide +kernel
theorem k_95_70_ok : okc 95 70 k_95_70 = true := by decide +kernel
theorem k_95_79_ok : okc 95 79 k_95_79 = true := by decide +kernel
-- 96: RavenSupper.noon(II)I
def k_96_0 : List Instr := [.iload 1, .invokeinterface 122 64, .ifCond .eq (14), .iload 2, .invokeinterface 122 64, .ifCond .ne (21), .aload 0, .bipush (-2), .invokeinterface 118 150, .ireturn]
def k_96_14 : List Instr := [.aload 0, .bipush (-2), .invokeinterface 118 150, .ireturn]
def k_96_21 : List Instr := [.bipush (0), .istore 3, .iload 3, .bipush (16), .if_icmp .ge (44), .iload 1, .iload 2, .iload 3, .invokeinterface 30 192, .ifCond .eq (44), .iinc 3 (1), .goto (23)]
def k_96_23 : List Instr := [.iload 3, .bipush (16), .if_icmp .ge (44), .iload 1, .iload 2, .iload 3, .invokeinterface 30 192, .ifCond .eq (44), .iinc 3 (1), .goto (23)]
def k_96_44 : List Instr := [.iload 3, .ireturn]
theorem k_96_0_ok : okc 96 0 k_96_0 = true := by decide +kernel
theorem k_96_14_ok : okc 96 14 k_96_14 = true := by decide +kernel
theorem k_96_21_ok : okc 96 21 k_96_21 = true := by decide +kernel
theorem k_96_23_ok : okc 96 23 k_96_23 = true := by decide +kernel
theorem k_96_44_ok : okc 96 44 k_96_44 = true := by decide +kernel
-- 97: RavenSupper.mixed(IIII)I
def k_97_0 : List Instr := [.iload 1, .invokeinterface 122 64, .ifCond .eq (29), .iload 2, .invokeinterface 122 64, .ifCond .eq (29), .iload 3, .invokeinterface 122 64, .ifCond .eq (29), .iload 4, .invokeinterface 122 64, .ifCond .ne (38), .aload 0, .bipush (-2), .bipush (-10), .invokeinterface 119 214, .ireturn]
def k_97_29 : List Instr := [.aload 0, .bipush (-2), .bipush (-10), .invokeinterface 119 214, .ireturn]
def k_97_38 : List Instr := [.bipush (0), .istore 5, .iload 5, .bipush (16), .if_icmp .gt (81), .iload 1, .iload 2, .iload 5, .invokeinterface 30 192, .ifCond .ne (75), .iload 3, .iload 4, .bipush (16), .iload 5, .isub, .invokeinterface 30 192, .ifCond .ne (75), .iload 5, .ireturn]
def k_97_41 : List Instr := [.iload 5, .bipush (16), .if_icmp .gt (81), .iload 1, .iload 2, .iload 5, .invokeinterface 30 192, .ifCond .ne (75), .iload 3, .iload 4, .bipush (16), .iload 5, .isub, .invokeinterface 30 192, .ifCond .ne (75), .iload 5, .ireturn]
def k_97_75 : List Instr := [.iinc 5 (1), .goto (41)]
def k_97_81 : List Instr := [.bipush (-1), .ireturn]
theorem k_97_0_ok : okc 97 0 k_97_0 = true := by decide +kernel
theorem k_97_29_ok : okc 97 29 k_97_29 = true := by decide +kernel
theorem k_97_38_ok : okc 97 38 k_97_38 = true := by decide +kernel
theorem k_97_41_ok : okc 97 41 k_97_41 = true := by decide +kernel
theorem k_97_75_ok : okc 97 75 k_97_75 = true := by decide +kernel
theorem k_97_81_ok : okc 97 81 k_97_81 = true := by decide +kernel
-- 98: RavenSupper.round(IIII)I
def k_98_0 : List Instr := [.iload 1, .bipush (1), .bipush (5), .invokeinterface 120 192, .ifCond .eq (35), .aload 0, .getstatic 600, .iload 2, .invokeinterface 58 149, .ifCond .eq (35), .iload 3, .bipush (1), .bipush (12), .invokeinterface 120 192, .ifCond .eq (35), .iload 4, .ifCond .ge (44), .aload 0, .bipush (-2), .bipush (-10), .invokeinterface 119 214, .ireturn]
def k_98_35 : List Instr := [.aload 0, .bipush (-2), .bipush (-10), .invokeinterface 119 214, .ireturn]
def k_98_44 : List Instr := [.aload 0, .getstatic 606, .aload 0, .getstatic 600, .iload 1, .iload 2, .iload 3, .invokeinterface 31 339, .ifCond .ne (63), .bipush (-1), .ireturn]
def k_98_63 : List Instr := [.iload 4, .iload 1, .if_icmp .ge (82), .aload 0, .getstatic 606, .getstatic 300, .iload 4, .iaload, .goto (84)]
def k_98_82 : List Instr := [.bipush (-5), .ireturn]
def k_98_84 : List Instr := [.ireturn]
theorem k_98_0_ok : okc 98 0 k_98_0 = true := by decide +kernel
theorem k_98_35_ok : okc 98 35 k_98_35 = true := by decide +kernel
theorem k_98_44_ok : okc 98 44 k_98_44 = true := by decide +kernel
theorem k_98_63_ok : okc 98 63 k_98_63 = true := by decide +kernel
theorem k_98_82_ok : okc 98 82 k_98_82 = true := by decide +kernel
theorem k_98_84_ok : okc 98 84 k_98_84 = true := by decide +kernel
-- 99: RavenSupper.crow(IIZ)I
def k_99_0 : List Instr := [.iload 1, .bipush (0), .bipush (3), .invokeinterface 120 192, .ifCond .eq (20), .aload 0, .getstatic 600, .iload 2, .invokeinterface 57 149, .ifCond .ne (27), .aload 0, .bipush (-2), .invokeinterface 118 150, .ireturn]
def k_99_20 : List Instr := [.aload 0, .bipush (-2), .invokeinterface 118 150, .ireturn]
def k_99_27 : List Instr := [.aload 0, .aload 0, .getstatic 600, .iload 1, .iload 2, .iload 3, .invokeinterface 54 277, .invokeinterface 118 150, .ireturn]
theorem k_99_0_ok : okc 99 0 k_99_0 = true := by decide +kernel
theorem k_99_20_ok : okc 99 20 k_99_20 = true := by decide +kernel
theorem k_99_27_ok : okc 99 27 k_99_27 = true := by decide +kernel
-- 104: RavenSupper$Text.<init>()V
def k_104_0 : List Instr := [.aload 0, .nop, .aload 0, .bipush (150), .anewarray 10, .putstatic 400, .aload 0, .bipush (3), .anewarray 8, .putstatic 404, .return_]
theorem k_104_0_ok : okc 104 0 k_104_0 = true := by decide +kernel
-- 105: RavenSupper$World.<init>()V
def k_105_0 : List Instr := [.aload 0, .nop, .aload 0, .bipush (6), .anewarray 8, .putstatic 501, .aload 0, .bipush (6), .anewarray 8, .putstatic 502, .aload 0, .bipush (6), .bipush (6), .multianewarray 0 0, .putstatic 503, .aload 0, .bipush (6), .anewarray 8, .putstatic 504, .aload 0, .bipush (2), .anewarray 8, .putstatic 505, .aload 0, .bipush (2), .anewarray 8, .putstatic 506, .aload 0, .new 0, .dup, .invokeinterface 100 112, .putstatic 507, .aload 0, .new 1, .dup, .invokeinterface 101 113, .putstatic 508, .aload 0, .bipush (8), .anewarray 12, .putstatic 509, .bipush (0), .istore 1, .iload 1, .bipush (8), .if_icmp .ge (112), .aload 0, .getstatic 509, .iload 1, .new 1, .dup, .invokeinterface 101 113, .aastore, .iinc 1 (1), .goto (87)]
def k_105_87 : List Instr := [.iload 1, .bipush (8), .if_icmp .ge (112), .aload 0, .getstatic 509, .iload 1, .new 1, .dup, .invokeinterface 101 113, .aastore, .iinc 1 (1), .goto (87)]
def k_105_112 : List Instr := [.aload 0, .bipush (4), .invokeinterface 48 149, .return_]
theorem k_105_0_ok : okc 105 0 k_105_0 = true := by decide +kernel
theorem k_105_87_ok : okc 105 87 k_105_87 = true := by decide +kernel
theorem k_105_112_ok : okc 105 112 k_105_112 = true := by decide +kernel
-- 106: RavenSupper.<init>()V
def k_106_0 : List Instr := [.aload 0, .nop, .aload 0, .new 5, .dup, .invokeinterface 105 117, .putstatic 600, .aload 0, .new 5, .dup, .invokeinterface 105 117, .putstatic 601, .aload 0, .bipush (2), .anewarray 11, .dup, .bipush (0), .new 5, .dup, .invokeinterface 105 117, .aastore, .dup, .bipush (1), .new 5, .dup, .invokeinterface 105 117, .aastore, .putstatic 602, .aload 0, .bipush (2), .anewarray 9, .putstatic 603, .aload 0, .new 4, .dup, .invokeinterface 104 116, .putstatic 604, .aload 0, .new 2, .dup, .invokeinterface 102 114, .putstatic 605, .aload 0, .new 3, .dup, .invokeinterface 103 115, .putstatic 606, .aload 0, .bipush (3), .anewarray 8, .putstatic 607, .return_]
theorem k_106_0_ok : okc 106 0 k_106_0 = true := by decide +kernel
-- 109: RavenSupper.hush()I
def k_109_0 : List Instr := [.aload 0, .getstatic 600, .invokeinterface 55 85, .ireturn]
theorem k_109_0_ok : okc 109 0 k_109_0 = true := by decide +kernel
-- 110: RavenSupper.liars(I)I
def k_110_0 : List Instr := [.iload 1, .bipush (0), .bipush (1), .invokeinterface 120 192, .ifCond .ne (18), .aload 0, .bipush (-2), .bipush (-10), .invokeinterface 119 214, .ireturn]
def k_110_18 : List Instr := [.iload 1, .ifCond .ne (35), .aload 0, .getstatic 600, .getstatic 507, .invokeinterface 1 80, .goto (45)]
def k_110_35 : List Instr := [.aload 0, .getstatic 600, .getstatic 507, .invokeinterface 2 80, .ireturn]
def k_110_45 : List Instr := [.ireturn]
theorem k_110_0_ok : okc 110 0 k_110_0 = true := by decide +kernel
theorem k_110_18_ok : okc 110 18 k_110_18 = true := by decide +kernel
theorem k_110_35_ok : okc 110 35 k_110_35 = true := by decide +kernel
theorem k_110_45_ok : okc 110 45 k_110_45 = true := by decide +kernel
-- 111: RavenSupper.leftOut(IIII)I
def k_111_0 : List Instr := [.iload 4, .bipush (-1), .if_icmp .ne (10), .bipush (1), .goto (11)]
def k_111_10 : List Instr := [.bipush (0), .istore 5, .iload 1, .bipush (0), .bipush (6), .invokeinterface 120 192, .ifCond .eq (62), .aload 0, .getstatic 600, .iload 2, .invokeinterface 57 149, .ifCond .eq (62), .aload 0, .getstatic 600, .iload 3, .invokeinterface 57 149, .ifCond .eq (62), .iload 5, .ifCond .ne (69), .aload 0, .getstatic 600, .iload 4, .invokeinterface 57 149, .ifCond .ne (69), .aload 0, .bipush (-2), .invokeinterface 118 150, .ireturn]
def k_111_11 : List Instr := [.istore 5, .iload 1, .bipush (0), .bipush (6), .invokeinterface 120 192, .ifCond .eq (62), .aload 0, .getstatic 600, .iload 2, .invokeinterface 57 149, .ifCond .eq (62), .aload 0, .getstatic 600, .iload 3, .invokeinterface 57 149, .ifCond .eq (62), .iload 5, .ifCond .ne (69), .aload 0, .getstatic 600, .iload 4, .invokeinterface 57 149, .ifCond .ne (69), .aload 0, .bipush (-2), .invokeinterface 118 150, .ireturn]
def k_111_62 : List Instr := [.aload 0, .bipush (-2), .invokeinterface 118 150, .ireturn]
def k_111_69 : List Instr := [.bipush (1), .iload 2, .ishl, .bipush (1), .iload 3, .ishl, .ior, .iload 5, .ifCond .eq (85), .bipush (0), .goto (89)]
def k_111_85 : List Instr := [.bipush (1), .iload 4, .ishl, .ior, .istore 6, .bipush (0), .istore 7, .bipush (0), .istore 8, .iload 8, .bipush (1), .aload 0, .getstatic 600, .getfield 500, .ishl, .if_icmp .ge (140), .iload 8, .iload 6, .iand, .iload 6, .if_icmp .ne (134), .iload 8, .invokeinterface 211 64, .iload 1, .if_icmp .ne (134), .iinc 7 (1), .iinc 8 (1), .goto (98)]
def k_111_89 : List Instr := [.ior, .istore 6, .bipush (0), .istore 7, .bipush (0), .istore 8, .iload 8, .bipush (1), .aload 0, .getstatic 600, .getfield 500, .ishl, .if_icmp .ge (140), .iload 8, .iload 6, .iand, .iload 6, .if_icmp .ne (134), .iload 8, .invokeinterface 211 64, .iload 1, .if_icmp .ne (134), .iinc 7 (1), .iinc 8 (1), .goto (98)]
def k_111_98 : List Instr := [.iload 8, .bipush (1), .aload 0, .getstatic 600, .getfield 500, .ishl, .if_icmp .ge (140), .iload 8, .iload 6, .iand, .iload 6, .if_icmp .ne (134), .iload 8, .invokeinterface 211 64, .iload 1, .if_icmp .ne (134), .iinc 7 (1), .iinc 8 (1), .goto (98)]
def k_111_134 : List Instr := [.iinc 8 (1), .goto (98)]
def k_111_140 : List Instr := [.iload 7, .ireturn]
theorem k_111_0_ok : okc 111 0 k_111_0 = true := by decide +kernel
theorem k_111_10_ok : okc 111 10 k_111_10 = true := by decide +kernel
theorem k_111_11_ok : okc 111 11 k_111_11 = true := by decide +kernel
theorem k_111_62_ok : okc 111 62 k_111_62 = true := by decide +kernel
theorem k_111_69_ok : okc 111 69 k_111_69 = true := by decide +kernel
theorem k_111_85_ok : okc 111 85 k_111_85 = true := by decide +kernel
theorem k_111_89_ok : okc 111 89 k_111_89 = true := by decide +kernel
theorem k_111_98_ok : okc 111 98 k_111_98 = true := by decide +kernel
theorem k_111_134_ok : okc 111 134 k_111_134 = true := by decide +kernel
theorem k_111_140_ok : okc 111 140 k_111_140 = true := by decide +kernel
-- 112: RavenSupper.mornings(II)I
def k_112_0 : List Instr := [.iload 1, .bipush (0), .bipush (60), .invokeinterface 120 192, .ifCond .eq (20), .iload 2, .bipush (0), .bipush (999999), .invokeinterface 120 192, .ifCond .ne (27), .aload 0, .bipush (-2), .invokeinterface 118 150, .ireturn]
def k_112_20 : List Instr := [.aload 0, .bipush (-2), .invokeinterface 118 150, .ireturn]
def k_112_27 : List Instr := [.aload 0, .getstatic 600, .iload 1, .iload 2, .invokeinterface 74 213, .ireturn]
theorem k_112_0_ok : okc 112 0 k_112_0 = true := by decide +kernel
theorem k_112_20_ok : okc 112 20 k_112_20 = true := by decide +kernel
theorem k_112_27_ok : okc 112 27 k_112_27 = true := by decide +kernel
-- 113: RavenSupper.image(I)I
def k_113_0 : List Instr := [.iload 1, .bipush (0), .bipush (1), .invokeinterface 120 192, .ifCond .ne (16), .aload 0, .bipush (-2), .invokeinterface 118 150, .ireturn]
def k_113_16 : List Instr := [.aload 0, .getstatic 602, .iload 1, .aaload, .aload 0, .getstatic 600, .invokeinterface 56 149, .aload 0, .getstatic 603, .iload 1, .bipush (1), .bastore, .bipush (1), .ireturn]
theorem k_113_0_ok : okc 113 0 k_113_0 = true := by decide +kernel
theorem k_113_16_ok : okc 113 16 k_113_16 = true := by decide +kernel
-- 114: RavenSupper.from(I)I
def k_114_0 : List Instr := [.iload 1, .bipush (0), .bipush (1), .invokeinterface 120 192, .ifCond .ne (16), .aload 0, .bipush (-2), .invokeinterface 118 150, .ireturn]
def k_114_16 : List Instr := [.aload 0, .getstatic 603, .iload 1, .baload, .ifCond .ne (32), .aload 0, .bipush (-3), .invokeinterface 118 150, .ireturn]
def k_114_32 : List Instr := [.aload 0, .getstatic 600, .aload 0, .getstatic 602, .iload 1, .aaload, .invokeinterface 56 149, .bipush (1), .ireturn]
theorem k_114_0_ok : okc 114 0 k_114_0 = true := by decide +kernel
theorem k_114_16_ok : okc 114 16 k_114_16 = true := by decide +kernel
theorem k_114_32_ok : okc 114 32 k_114_32 = true := by decide +kernel
-- 115: RavenSupper.status(I)I
def k_115_0 : List Instr := [.iload 1, .bipush (0), .bipush (2), .invokeinterface 120 192, .ifCond .ne (17), .aload 0, .bipush (-2), .bipush (-1), .invokeinterface 119 214, .ireturn]
def k_115_17 : List Instr := [.aload 0, .getstatic 607, .iload 1, .iaload, .ireturn]
theorem k_115_0_ok : okc 115 0 k_115_0 = true := by decide +kernel
theorem k_115_17_ok : okc 115 17 k_115_17 = true := by decide +kernel
-- 116: RavenSupper.count(I)I
def k_116_0 : List Instr := [.iload 1, .tableswitch 94 (0) (5) #[40, 48, 59, 67, 78, 86]]
def k_116_40 : List Instr := [.aload 0, .getstatic 600, .getfield 500, .ireturn]
def k_116_48 : List Instr := [.aload 0, .getstatic 600, .getstatic 508, .getfield 100, .ireturn]
def k_116_59 : List Instr := [.aload 0, .getstatic 600, .invokeinterface 60 85, .ireturn]
def k_116_67 : List Instr := [.aload 0, .getstatic 600, .getstatic 507, .getfield 0, .ireturn]
def k_116_78 : List Instr := [.aload 0, .getstatic 600, .getfield 510, .ireturn]
def k_116_86 : List Instr := [.aload 0, .getstatic 604, .getfield 401, .ireturn]
def k_116_94 : List Instr := [.aload 0, .bipush (-2), .invokeinterface 118 150, .ireturn]
theorem k_116_0_ok : okc 116 0 k_116_0 = true := by decide +kernel
theorem k_116_40_ok : okc 116 40 k_116_40 = true := by decide +kernel
theorem k_116_48_ok : okc 116 48 k_116_48 = true := by decide +kernel
theorem k_116_59_ok : okc 116 59 k_116_59 = true := by decide +kernel
theorem k_116_67_ok : okc 116 67 k_116_67 = true := by decide +kernel
theorem k_116_78_ok : okc 116 78 k_116_78 = true := by decide +kernel
theorem k_116_86_ok : okc 116 86 k_116_86 = true := by decide +kernel
theorem k_116_94_ok : okc 116 94 k_116_94 = true := by decide +kernel
-- 117: RavenSupper.digest()J
def k_117_0 : List Instr := [.sipush (911), .lstore 1, .bipush (0), .istore 3, .iload 3, .bipush (5), .if_icmp .gt (30), .sipush (31), .lload 1, .lmul, .aload 0, .iload 3, .invokeinterface 116 150, .i2l, .ladd, .lstore 1, .iinc 3 (1), .goto (6)]
def k_117_6 : List Instr := [.iload 3, .bipush (5), .if_icmp .gt (30), .sipush (31), .lload 1, .lmul, .aload 0, .iload 3, .invokeinterface 116 150, .i2l, .ladd, .lstore 1, .iinc 3 (1), .goto (6)]
def k_117_30 : List Instr := [.aload 0, .getstatic 600, .lload 1, .invokeinterface 75 149, .lreturn]
theorem k_117_0_ok : okc 117 0 k_117_0 = true := by decide +kernel
theorem k_117_6_ok : okc 117 6 k_117_6 = true := by decide +kernel
theorem k_117_30_ok : okc 117 30 k_117_30 = true := by decide +kernel
-- 118: RavenSupper.counted(I)I
def k_118_0 : List Instr := [.iload 1, .bipush (-2), .if_icmp .eq (18), .iload 1, .bipush (-3), .if_icmp .eq (18), .iload 1, .bipush (-4), .if_icmp .ne (31), .aload 0, .getstatic 607, .bipush (-2), .iload 1, .isub, .dup2, .iaload, .bipush (1), .iadd, .iastore, .iload 1, .ireturn]
def k_118_18 : List Instr := [.aload 0, .getstatic 607, .bipush (-2), .iload 1, .isub, .dup2, .iaload, .bipush (1), .iadd, .iastore, .iload 1, .ireturn]
def k_118_31 : List Instr := [.iload 1, .ireturn]
theorem k_118_0_ok : okc 118 0 k_118_0 = true := by decide +kernel
theorem k_118_18_ok : okc 118 18 k_118_18 = true := by decide +kernel
theorem k_118_31_ok : okc 118 31 k_118_31 = true := by decide +kernel
-- 119: RavenSupper.refusedWith(II)I
def k_119_0 : List Instr := [.aload 0, .iload 1, .invokeinterface 118 150, .pop, .iload 2, .ireturn]
theorem k_119_0_ok : okc 119 0 k_119_0 = true := by decide +kernel
-- 120: RavenSupper.within(III)Z
def k_120_0 : List Instr := [.iload 0, .iload 1, .if_icmp .lt (14), .iload 0, .iload 2, .if_icmp .gt (14), .bipush (1), .goto (15)]
def k_120_14 : List Instr := [.bipush (0), .freturn]
def k_120_15 : List Instr := [.freturn]
theorem k_120_0_ok : okc 120 0 k_120_0 = true := by decide +kernel
theorem k_120_14_ok : okc 120 14 k_120_14 = true := by decide +kernel
theorem k_120_15_ok : okc 120 15 k_120_15 = true := by decide +kernel
-- 121: RavenSupper.isBird(I)Z
def k_121_0 : List Instr := [.iload 0, .bipush (0), .bipush (1), .invokeinterface 120 192, .freturn]
theorem k_121_0_ok : okc 121 0 k_121_0 = true := by decide +kernel
-- 122: RavenSupper.isStake(I)Z
def k_122_0 : List Instr := [.iload 0, .bipush (0), .bipush (99), .invokeinterface 120 192, .freturn]
theorem k_122_0_ok : okc 122 0 k_122_0 = true := by decide +kernel
-- 123: RavenSupper.hasBit(II)Z
def k_123_0 : List Instr := [.iload 0, .iload 1, .ishr, .bipush (1), .iand, .bipush (1), .if_icmp .ne (13), .bipush (1), .goto (14)]
def k_123_13 : List Instr := [.bipush (0), .freturn]
def k_123_14 : List Instr := [.freturn]
theorem k_123_0_ok : okc 123 0 k_123_0 = true := by decide +kernel
theorem k_123_13_ok : okc 123 13 k_123_13 = true := by decide +kernel
theorem k_123_14_ok : okc 123 14 k_123_14 = true := by decide +kernel
-- 124: RavenSupper.oneIf(Z)I
def k_124_0 : List Instr := [.iload 0, .ifCond .eq (8), .bipush (1), .goto (9)]
def k_124_8 : List Instr := [.bipush (0), .ireturn]
def k_124_9 : List Instr := [.ireturn]
theorem k_124_0_ok : okc 124 0 k_124_0 = true := by decide +kernel
theorem k_124_8_ok : okc 124 8 k_124_8 = true := by decide +kernel
theorem k_124_9_ok : okc 124 9 k_124_9 = true := by decide +kernel
