/-! LINKED CODES: k_<method>_<label>, the instructions from a label to the next unconditional end; each is checked against the machine's decoding (printed by wip/whole/gen13.py) -/
-- 0: RavenSupper$Caws.add(IIZ)V
def k_0_0 : List Instr := [.aload 0, .getstatic 1, .aload 0, .getfield 0, .iload 1, .iastore, .aload 0, .getstatic 2, .aload 0, .getfield 0, .iload 2, .iastore, .aload 0, .getstatic 3, .aload 0, .getfield 0, .iload 3, .bastore, .aload 0, .dup, .getfield 0, .bipush (1), .iadd, .putfield 0, .return_]
theorem k_0_0_ok : okc 0 0 k_0_0 = true := by decide +kernel
-- 1: RavenSupper$Caws.liarSets()I
def k_1_0 : List Instr := [.bipush (0), .istore 1, .bipush (0), .istore 2, .iload 2, .bipush (16), .if_icmp .ge (27), .iload 1, .aload 0, .iload 2, .invokeinterface 3 144, .invokeinterface 124 64, .iadd, .istore 1, .iinc 2 (1), .goto (4)]
def k_1_4 : List Instr := [.iload 2, .bipush (16), .if_icmp .ge (27), .iload 1, .aload 0, .iload 2, .invokeinterface 3 144, .invokeinterface 124 64, .iadd, .istore 1, .iinc 2 (1), .goto (4)]
def k_1_27 : List Instr := [.iload 1, .ireturn]
theorem k_1_0_ok : okc 1 0 k_1_0 = true := by decide +kernel
theorem k_1_4_ok : okc 1 4 k_1_4 = true := by decide +kernel
theorem k_1_27_ok : okc 1 27 k_1_27 = true := by decide +kernel
-- 2: RavenSupper$Caws.sureLiars()I
def k_2_0 : List Instr := [.bipush (-1), .istore 1, .bipush (0), .istore 2, .iload 2, .bipush (16), .if_icmp .ge (37), .aload 0, .iload 2, .invokeinterface 3 144, .ifCond .eq (31), .iload 1, .bipush (-1), .if_icmp .ne (27), .iload 2, .goto (30)]
def k_2_4 : List Instr := [.iload 2, .bipush (16), .if_icmp .ge (37), .aload 0, .iload 2, .invokeinterface 3 144, .ifCond .eq (31), .iload 1, .bipush (-1), .if_icmp .ne (27), .iload 2, .goto (30)]
def k_2_27 : List Instr := [.iload 1, .iload 2, .iand, .istore 1, .iinc 2 (1), .goto (4)]
def k_2_30 : List Instr := [.istore 1, .iinc 2 (1), .goto (4)]
def k_2_31 : List Instr := [.iinc 2 (1), .goto (4)]
def k_2_37 : List Instr := [.iload 1, .ireturn]
theorem k_2_0_ok : okc 2 0 k_2_0 = true := by decide +kernel
theorem k_2_4_ok : okc 2 4 k_2_4 = true := by decide +kernel
theorem k_2_27_ok : okc 2 27 k_2_27 = true := by decide +kernel
theorem k_2_30_ok : okc 2 30 k_2_30 = true := by decide +kernel
theorem k_2_31_ok : okc 2 31 k_2_31 = true := by decide +kernel
theorem k_2_37_ok : okc 2 37 k_2_37 = true := by decide +kernel
-- 3: RavenSupper$Caws.mayLie(I)Z
def k_3_0 : List Instr := [.bipush (0), .istore 2, .bipush (0), .istore 3, .bipush (0), .istore 4, .iload 4, .aload 0, .getfield 0, .if_icmp .ge (70), .aload 0, .getstatic 3, .iload 4, .baload, .iload 1, .aload 0, .getstatic 1, .iload 4, .iaload, .invokeinterface 123 128, .if_icmp .eq (52), .iload 2, .bipush (1), .aload 0, .getstatic 2, .iload 4, .iaload, .ishl, .ior, .istore 2, .goto (64)]
def k_3_7 : List Instr := [.iload 4, .aload 0, .getfield 0, .if_icmp .ge (70), .aload 0, .getstatic 3, .iload 4, .baload, .iload 1, .aload 0, .getstatic 1, .iload 4, .iaload, .invokeinterface 123 128, .if_icmp .eq (52), .iload 2, .bipush (1), .aload 0, .getstatic 2, .iload 4, .iaload, .ishl, .ior, .istore 2, .goto (64)]
def k_3_52 : List Instr := [.iload 3, .bipush (1), .aload 0, .getstatic 2, .iload 4, .iaload, .ishl, .ior, .istore 3, .iinc 4 (1), .goto (7)]
def k_3_64 : List Instr := [.iinc 4 (1), .goto (7)]
def k_3_70 : List Instr := [.iload 2, .iload 3, .iand, .ifCond .ne (80), .bipush (1), .goto (81)]
def k_3_80 : List Instr := [.bipush (0), .freturn]
def k_3_81 : List Instr := [.freturn]
theorem k_3_0_ok : okc 3 0 k_3_0 = true := by decide +kernel
theorem k_3_7_ok : okc 3 7 k_3_7 = true := by decide +kernel
theorem k_3_52_ok : okc 3 52 k_3_52 = true := by decide +kernel
theorem k_3_64_ok : okc 3 64 k_3_64 = true := by decide +kernel
theorem k_3_70_ok : okc 3 70 k_3_70 = true := by decide +kernel
theorem k_3_80_ok : okc 3 80 k_3_80 = true := by decide +kernel
theorem k_3_81_ok : okc 3 81 k_3_81 = true := by decide +kernel
-- 4: RavenSupper$Caws.copyFrom(LRavenSupper$Caws;)V
def k_4_0 : List Instr := [.aload 0, .aload 1, .getfield 0, .putfield 0, .aload 1, .getstatic 1, .bipush (0), .aload 0, .getstatic 1, .bipush (0), .bipush (8), .fmul, .aload 1, .getstatic 2, .bipush (0), .aload 0, .getstatic 2, .bipush (0), .bipush (8), .fmul, .aload 1, .getstatic 3, .bipush (0), .aload 0, .getstatic 3, .bipush (0), .bipush (8), .fmul, .return_]
theorem k_4_0_ok : okc 4 0 k_4_0 = true := by decide +kernel
-- 5: RavenSupper$Evening.begin()V
def k_5_0 : List Instr := [.aload 0, .bipush (0), .putfield 100, .bipush (0), .istore 1, .iload 1, .bipush (6), .if_icmp .ge (27), .aload 0, .getstatic 101, .iload 1, .bipush (8), .iastore, .iinc 1 (1), .goto (7)]
def k_5_7 : List Instr := [.iload 1, .bipush (6), .if_icmp .ge (27), .aload 0, .getstatic 101, .iload 1, .bipush (8), .iastore, .iinc 1 (1), .goto (7)]
def k_5_27 : List Instr := [.aload 0, .invokeinterface 7 81, .return_]
theorem k_5_0_ok : okc 5 0 k_5_0 = true := by decide +kernel
theorem k_5_7_ok : okc 5 7 k_5_7 = true := by decide +kernel
theorem k_5_27_ok : okc 5 27 k_5_27 = true := by decide +kernel
-- 6: RavenSupper$Evening.hear(IIIZ)V
def k_6_0 : List Instr := [.aload 0, .getstatic 102, .iload 1, .iload 2, .iastore, .aload 0, .getstatic 103, .iload 1, .iload 3, .iastore, .aload 0, .getstatic 104, .iload 1, .iload 4, .bastore, .return_]
theorem k_6_0_ok : okc 6 0 k_6_0 = true := by decide +kernel
-- 7: RavenSupper$Evening.hearNothing()V
def k_7_0 : List Instr := [.bipush (0), .istore 1, .iload 1, .bipush (2), .if_icmp .ge (21), .aload 0, .iload 1, .bipush (-1), .bipush (0), .bipush (0), .invokeinterface 6 337, .iinc 1 (1), .goto (2)]
def k_7_2 : List Instr := [.iload 1, .bipush (2), .if_icmp .ge (21), .aload 0, .iload 1, .bipush (-1), .bipush (0), .bipush (0), .invokeinterface 6 337, .iinc 1 (1), .goto (2)]
def k_7_21 : List Instr := [.return_]
theorem k_7_0_ok : okc 7 0 k_7_0 = true := by decide +kernel
theorem k_7_2_ok : okc 7 2 k_7_2 = true := by decide +kernel
theorem k_7_21_ok : okc 7 21 k_7_21 = true := by decide +kernel
-- 8: RavenSupper$Evening.copyFrom(LRavenSupper$Evening;)V
def k_8_0 : List Instr := [.aload 0, .aload 1, .getfield 100, .putfield 100, .aload 1, .getstatic 101, .bipush (0), .aload 0, .getstatic 101, .bipush (0), .bipush (6), .fmul, .aload 1, .getstatic 102, .bipush (0), .aload 0, .getstatic 102, .bipush (0), .bipush (2), .fmul, .aload 1, .getstatic 103, .bipush (0), .aload 0, .getstatic 103, .bipush (0), .bipush (2), .fmul, .aload 1, .getstatic 104, .bipush (0), .aload 0, .getstatic 104, .bipush (0), .bipush (2), .fmul, .return_]
theorem k_8_0_ok : okc 8 0 k_8_0 = true := by decide +kernel
-- 9: RavenSupper$Flights.pairOfMostWorth(LRavenSupper$World;I)I
def k_9_0 : List Instr := [.aload 0, .aload 1, .iload 2, .invokeinterface 13 210, .bipush (0), .istore 3, .iload 3, .bipush (2), .if_icmp .ge (67), .bipush (0), .istore 4, .iload 4, .aload 1, .getfield 500, .if_icmp .ge (61), .aload 0, .getstatic 200, .iload 3, .iaload, .iload 4, .invokeinterface 123 128, .ifCond .eq (55), .aload 0, .getstatic 201, .iload 3, .aaload, .iload 4, .aload 1, .iload 3, .iload 4, .invokeinterface 67 213, .iastore, .iinc 4 (1), .goto (16)]
def k_9_8 : List Instr := [.iload 3, .bipush (2), .if_icmp .ge (67), .bipush (0), .istore 4, .iload 4, .aload 1, .getfield 500, .if_icmp .ge (61), .aload 0, .getstatic 200, .iload 3, .iaload, .iload 4, .invokeinterface 123 128, .ifCond .eq (55), .aload 0, .getstatic 201, .iload 3, .aaload, .iload 4, .aload 1, .iload 3, .iload 4, .invokeinterface 67 213, .iastore, .iinc 4 (1), .goto (16)]
def k_9_16 : List Instr := [.iload 4, .aload 1, .getfield 500, .if_icmp .ge (61), .aload 0, .getstatic 200, .iload 3, .iaload, .iload 4, .invokeinterface 123 128, .ifCond .eq (55), .aload 0, .getstatic 201, .iload 3, .aaload, .iload 4, .aload 1, .iload 3, .iload 4, .invokeinterface 67 213, .iastore, .iinc 4 (1), .goto (16)]
def k_9_55 : List Instr := [.iinc 4 (1), .goto (16)]
def k_9_61 : List Instr := [.iinc 3 (1), .goto (8)]
def k_9_67 : List Instr := [.aload 0, .invokeinterface 14 82, .ireturn]
theorem k_9_0_ok : okc 9 0 k_9_0 = true := by decide +kernel
theorem k_9_8_ok : okc 9 8 k_9_8 = true := by decide +kernel
theorem k_9_16_ok : okc 9 16 k_9_16 = true := by decide +kernel
theorem k_9_55_ok : okc 9 55 k_9_55 = true := by decide +kernel
theorem k_9_61_ok : okc 9 61 k_9_61 = true := by decide +kernel
theorem k_9_67_ok : okc 9 67 k_9_67 = true := by decide +kernel
-- 10: RavenSupper$Flights.pairGain(I)I
def k_10_0 : List Instr := [.iload 1, .bipush (10), .idiv, .istore 2, .iload 1, .bipush (10), .irem, .istore 3, .iload 2, .invokeinterface 225 64, .ifCond .eq (44), .iload 3, .invokeinterface 225 64, .ifCond .eq (44), .aload 0, .getstatic 201, .bipush (0), .aaload, .iload 2, .iaload, .aload 0, .getstatic 201, .bipush (1), .aaload, .iload 3, .iaload, .iadd, .goto (45)]
def k_10_44 : List Instr := [.bipush (0), .ireturn]
def k_10_45 : List Instr := [.ireturn]
theorem k_10_0_ok : okc 10 0 k_10_0 = true := by decide +kernel
theorem k_10_44_ok : okc 10 44 k_10_44 = true := by decide +kernel
theorem k_10_45_ok : okc 10 45 k_10_45 = true := by decide +kernel
-- 11: RavenSupper$Flights.thirdGain(I)I
def k_11_0 : List Instr := [.bipush (0), .istore 2, .bipush (0), .istore 3, .iload 3, .bipush (8), .if_icmp .ge (73), .bipush (0), .istore 4, .iload 4, .bipush (8), .if_icmp .ge (67), .aload 0, .iload 3, .iload 4, .invokeinterface 15 210, .ifCond .eq (61), .iload 2, .aload 0, .getstatic 201, .bipush (0), .aaload, .iload 3, .iaload, .aload 0, .getstatic 201, .bipush (1), .aaload, .iload 4, .iaload, .iadd, .aload 0, .iload 3, .iload 4, .invokeinterface 12 210, .iadd, .fadd, .istore 2, .iinc 4 (1), .goto (13)]
def k_11_4 : List Instr := [.iload 3, .bipush (8), .if_icmp .ge (73), .bipush (0), .istore 4, .iload 4, .bipush (8), .if_icmp .ge (67), .aload 0, .iload 3, .iload 4, .invokeinterface 15 210, .ifCond .eq (61), .iload 2, .aload 0, .getstatic 201, .bipush (0), .aaload, .iload 3, .iaload, .aload 0, .getstatic 201, .bipush (1), .aaload, .iload 4, .iaload, .iadd, .aload 0, .iload 3, .iload 4, .invokeinterface 12 210, .iadd, .fadd, .istore 2, .iinc 4 (1), .goto (13)]
def k_11_13 : List Instr := [.iload 4, .bipush (8), .if_icmp .ge (67), .aload 0, .iload 3, .iload 4, .invokeinterface 15 210, .ifCond .eq (61), .iload 2, .aload 0, .getstatic 201, .bipush (0), .aaload, .iload 3, .iaload, .aload 0, .getstatic 201, .bipush (1), .aaload, .iload 4, .iaload, .iadd, .aload 0, .iload 3, .iload 4, .invokeinterface 12 210, .iadd, .fadd, .istore 2, .iinc 4 (1), .goto (13)]
def k_11_61 : List Instr := [.iinc 4 (1), .goto (13)]
def k_11_67 : List Instr := [.iinc 3 (1), .goto (4)]
def k_11_73 : List Instr := [.iload 2, .aload 0, .iload 1, .invokeinterface 10 146, .isub, .ireturn]
theorem k_11_0_ok : okc 11 0 k_11_0 = true := by decide +kernel
theorem k_11_4_ok : okc 11 4 k_11_4 = true := by decide +kernel
theorem k_11_13_ok : okc 11 13 k_11_13 = true := by decide +kernel
theorem k_11_61_ok : okc 11 61 k_11_61 = true := by decide +kernel
theorem k_11_67_ok : okc 11 67 k_11_67 = true := by decide +kernel
theorem k_11_73_ok : okc 11 73 k_11_73 = true := by decide +kernel
-- 12: RavenSupper$Flights.gainBeside(II)I
def k_12_0 : List Instr := [.bipush (0), .istore 3, .bipush (0), .istore 4, .iload 4, .bipush (8), .if_icmp .ge (64), .aload 0, .getstatic 200, .bipush (0), .iaload, .iload 4, .invokeinterface 123 128, .ifCond .eq (58), .iload 1, .iload 4, .invokeinterface 16 128, .ifCond .eq (58), .iload 2, .iload 4, .invokeinterface 16 128, .ifCond .eq (58), .iload 3, .aload 0, .getstatic 201, .bipush (0), .aaload, .iload 4, .iaload, .fadd, .istore 3, .iinc 4 (1), .goto (5)]
def k_12_5 : List Instr := [.iload 4, .bipush (8), .if_icmp .ge (64), .aload 0, .getstatic 200, .bipush (0), .iaload, .iload 4, .invokeinterface 123 128, .ifCond .eq (58), .iload 1, .iload 4, .invokeinterface 16 128, .ifCond .eq (58), .iload 2, .iload 4, .invokeinterface 16 128, .ifCond .eq (58), .iload 3, .aload 0, .getstatic 201, .bipush (0), .aaload, .iload 4, .iaload, .fadd, .istore 3, .iinc 4 (1), .goto (5)]
def k_12_58 : List Instr := [.iinc 4 (1), .goto (5)]
def k_12_64 : List Instr := [.iload 3, .ireturn]
theorem k_12_0_ok : okc 12 0 k_12_0 = true := by decide +kernel
theorem k_12_5_ok : okc 12 5 k_12_5 = true := by decide +kernel
theorem k_12_58_ok : okc 12 58 k_12_58 = true := by decide +kernel
theorem k_12_64_ok : okc 12 64 k_12_64 = true := by decide +kernel
-- 13: RavenSupper$Flights.openPlaces(LRavenSupper$World;I)V
def k_13_0 : List Instr := [.bipush (0), .istore 3, .iload 3, .bipush (2), .if_icmp .ge (30), .aload 0, .getstatic 200, .iload 3, .aload 1, .iload 3, .invokeinterface 64 149, .iload 2, .iand, .bipush (128), .ior, .iastore, .iinc 3 (1), .goto (2)]
def k_13_2 : List Instr := [.iload 3, .bipush (2), .if_icmp .ge (30), .aload 0, .getstatic 200, .iload 3, .aload 1, .iload 3, .invokeinterface 64 149, .iload 2, .iand, .bipush (128), .ior, .iastore, .iinc 3 (1), .goto (2)]
def k_13_30 : List Instr := [.return_]
theorem k_13_0_ok : okc 13 0 k_13_0 = true := by decide +kernel
theorem k_13_2_ok : okc 13 2 k_13_2 = true := by decide +kernel
theorem k_13_30_ok : okc 13 30 k_13_30 = true := by decide +kernel
-- 14: RavenSupper$Flights.bestPair()I
def k_14_0 : List Instr := [.bipush (-1), .istore 1, .bipush (0), .istore 2, .bipush (0), .istore 3, .iload 3, .bipush (8), .if_icmp .ge (86), .bipush (0), .istore 4, .iload 4, .bipush (8), .if_icmp .ge (80), .aload 0, .getstatic 201, .bipush (0), .aaload, .iload 3, .iaload, .aload 0, .getstatic 201, .bipush (1), .aaload, .iload 4, .iaload, .iadd, .istore 5, .aload 0, .iload 3, .iload 4, .invokeinterface 15 210, .ifCond .eq (74), .iload 1, .bipush (-1), .if_icmp .eq (63), .iload 5, .iload 2, .if_icmp .le (74), .bipush (10), .iload 3, .imul, .iload 4, .iadd, .istore 1, .iload 5, .istore 2, .iinc 4 (1), .goto (15)]
def k_14_6 : List Instr := [.iload 3, .bipush (8), .if_icmp .ge (86), .bipush (0), .istore 4, .iload 4, .bipush (8), .if_icmp .ge (80), .aload 0, .getstatic 201, .bipush (0), .aaload, .iload 3, .iaload, .aload 0, .getstatic 201, .bipush (1), .aaload, .iload 4, .iaload, .iadd, .istore 5, .aload 0, .iload 3, .iload 4, .invokeinterface 15 210, .ifCond .eq (74), .iload 1, .bipush (-1), .if_icmp .eq (63), .iload 5, .iload 2, .if_icmp .le (74), .bipush (10), .iload 3, .imul, .iload 4, .iadd, .istore 1, .iload 5, .istore 2, .iinc 4 (1), .goto (15)]
def k_14_15 : List Instr := [.iload 4, .bipush (8), .if_icmp .ge (80), .aload 0, .getstatic 201, .bipush (0), .aaload, .iload 3, .iaload, .aload 0, .getstatic 201, .bipush (1), .aaload, .iload 4, .iaload, .iadd, .istore 5, .aload 0, .iload 3, .iload 4, .invokeinterface 15 210, .ifCond .eq (74), .iload 1, .bipush (-1), .if_icmp .eq (63), .iload 5, .iload 2, .if_icmp .le (74), .bipush (10), .iload 3, .imul, .iload 4, .iadd, .istore 1, .iload 5, .istore 2, .iinc 4 (1), .goto (15)]
def k_14_63 : List Instr := [.bipush (10), .iload 3, .imul, .iload 4, .iadd, .istore 1, .iload 5, .istore 2, .iinc 4 (1), .goto (15)]
def k_14_74 : List Instr := [.iinc 4 (1), .goto (15)]
def k_14_80 : List Instr := [.iinc 3 (1), .goto (6)]
def k_14_86 : List Instr := [.iload 1, .ireturn]
theorem k_14_0_ok : okc 14 0 k_14_0 = true := by decide +kernel
theorem k_14_6_ok : okc 14 6 k_14_6 = true := by decide +kernel
theorem k_14_15_ok : okc 14 15 k_14_15 = true := by decide +kernel
theorem k_14_63_ok : okc 14 63 k_14_63 = true := by decide +kernel
theorem k_14_74_ok : okc 14 74 k_14_74 = true := by decide +kernel
theorem k_14_80_ok : okc 14 80 k_14_80 = true := by decide +kernel
theorem k_14_86_ok : okc 14 86 k_14_86 = true := by decide +kernel
-- 15: RavenSupper$Flights.isOpen(II)Z
def k_15_0 : List Instr := [.aload 0, .getstatic 200, .bipush (0), .iaload, .iload 1, .invokeinterface 123 128, .ifCond .eq (38), .aload 0, .getstatic 200, .bipush (1), .iaload, .iload 2, .invokeinterface 123 128, .ifCond .eq (38), .iload 1, .iload 2, .invokeinterface 16 128, .ifCond .eq (38), .bipush (1), .goto (39)]
def k_15_38 : List Instr := [.bipush (0), .freturn]
def k_15_39 : List Instr := [.freturn]
theorem k_15_0_ok : okc 15 0 k_15_0 = true := by decide +kernel
theorem k_15_38_ok : okc 15 38 k_15_38 = true := by decide +kernel
theorem k_15_39_ok : okc 15 39 k_15_39 = true := by decide +kernel
-- 16: RavenSupper$Flights.areApart(II)Z
def k_16_0 : List Instr := [.iload 0, .iload 1, .if_icmp .ne (11), .iload 0, .bipush (7), .if_icmp .ne (15), .bipush (1), .goto (16)]
def k_16_11 : List Instr := [.bipush (1), .goto (16)]
def k_16_15 : List Instr := [.bipush (0), .freturn]
def k_16_16 : List Instr := [.freturn]
theorem k_16_0_ok : okc 16 0 k_16_0 = true := by decide +kernel
theorem k_16_11_ok : okc 16 11 k_16_11 = true := by decide +kernel
theorem k_16_15_ok : okc 16 15 k_16_15 = true := by decide +kernel
theorem k_16_16_ok : okc 16 16 k_16_16 = true := by decide +kernel
-- 17: RavenSupper$Flights.lookAhead(LRavenSupper$World;II)V
def k_17_0 : List Instr := [.aload 0, .aload 1, .iload 2, .invokeinterface 13 210, .aload 0, .bipush (-1), .putfield 204, .iload 3, .bipush (1), .if_icmp .ne (43), .aload 1, .getstatic 508, .getstatic 101, .bipush (0), .aload 0, .getstatic 202, .bipush (0), .bipush (6), .fmul, .aload 0, .aload 1, .iload 2, .bipush (0), .invokeinterface 19 274, .pop, .return_]
def k_17_43 : List Instr := [.bipush (0), .istore 4, .iload 4, .bipush (8), .if_icmp .ge (119), .bipush (0), .istore 5, .iload 5, .bipush (8), .if_icmp .ge (113), .aload 0, .iload 4, .iload 5, .invokeinterface 15 210, .ifCond .eq (107), .aload 0, .aload 1, .iload 4, .iload 5, .invokeinterface 18 274, .aload 0, .aload 1, .iload 2, .bipush (1), .invokeinterface 19 274, .ifCond .eq (107), .aload 0, .getstatic 203, .bipush (0), .bipush (10), .iload 4, .imul, .iload 5, .iadd, .iastore, .iinc 5 (1), .goto (56)]
def k_17_46 : List Instr := [.iload 4, .bipush (8), .if_icmp .ge (119), .bipush (0), .istore 5, .iload 5, .bipush (8), .if_icmp .ge (113), .aload 0, .iload 4, .iload 5, .invokeinterface 15 210, .ifCond .eq (107), .aload 0, .aload 1, .iload 4, .iload 5, .invokeinterface 18 274, .aload 0, .aload 1, .iload 2, .bipush (1), .invokeinterface 19 274, .ifCond .eq (107), .aload 0, .getstatic 203, .bipush (0), .bipush (10), .iload 4, .imul, .iload 5, .iadd, .iastore, .iinc 5 (1), .goto (56)]
def k_17_56 : List Instr := [.iload 5, .bipush (8), .if_icmp .ge (113), .aload 0, .iload 4, .iload 5, .invokeinterface 15 210, .ifCond .eq (107), .aload 0, .aload 1, .iload 4, .iload 5, .invokeinterface 18 274, .aload 0, .aload 1, .iload 2, .bipush (1), .invokeinterface 19 274, .ifCond .eq (107), .aload 0, .getstatic 203, .bipush (0), .bipush (10), .iload 4, .imul, .iload 5, .iadd, .iastore, .iinc 5 (1), .goto (56)]
def k_17_107 : List Instr := [.iinc 5 (1), .goto (56)]
def k_17_113 : List Instr := [.iinc 4 (1), .goto (46)]
def k_17_119 : List Instr := [.return_]
theorem k_17_0_ok : okc 17 0 k_17_0 = true := by decide +kernel
theorem k_17_43_ok : okc 17 43 k_17_43 = true := by decide +kernel
theorem k_17_46_ok : okc 17 46 k_17_46 = true := by decide +kernel
theorem k_17_56_ok : okc 17 56 k_17_56 = true := by decide +kernel
theorem k_17_107_ok : okc 17 107 k_17_107 = true := by decide +kernel
theorem k_17_113_ok : okc 17 113 k_17_113 = true := by decide +kernel
theorem k_17_119_ok : okc 17 119 k_17_119 = true := by decide +kernel
-- 18: RavenSupper$Flights.goAhead(LRavenSupper$World;II)V
def k_18_0 : List Instr := [.bipush (0), .istore 4, .iload 4, .aload 1, .getfield 500, .if_icmp .ge (79), .aload 1, .getstatic 508, .getstatic 101, .iload 4, .iaload, .istore 5, .iload 4, .iload 2, .if_icmp .eq (36), .iload 4, .iload 3, .if_icmp .ne (57), .aload 1, .iload 4, .iload 2, .if_icmp .ne (47), .bipush (0), .goto (48)]
def k_18_3 : List Instr := [.iload 4, .aload 1, .getfield 500, .if_icmp .ge (79), .aload 1, .getstatic 508, .getstatic 101, .iload 4, .iaload, .istore 5, .iload 4, .iload 2, .if_icmp .eq (36), .iload 4, .iload 3, .if_icmp .ne (57), .aload 1, .iload 4, .iload 2, .if_icmp .ne (47), .bipush (0), .goto (48)]
def k_18_36 : List Instr := [.aload 1, .iload 4, .iload 2, .if_icmp .ne (47), .bipush (0), .goto (48)]
def k_18_47 : List Instr := [.bipush (1), .iload 4, .iload 5, .invokeinterface 20 256, .istore 5, .aload 0, .getstatic 202, .iload 4, .aload 1, .iload 4, .iload 5, .bipush (1), .invokeinterface 68 277, .iastore, .iinc 4 (1), .goto (3)]
def k_18_48 : List Instr := [.iload 4, .iload 5, .invokeinterface 20 256, .istore 5, .aload 0, .getstatic 202, .iload 4, .aload 1, .iload 4, .iload 5, .bipush (1), .invokeinterface 68 277, .iastore, .iinc 4 (1), .goto (3)]
def k_18_57 : List Instr := [.aload 0, .getstatic 202, .iload 4, .aload 1, .iload 4, .iload 5, .bipush (1), .invokeinterface 68 277, .iastore, .iinc 4 (1), .goto (3)]
def k_18_79 : List Instr := [.return_]
theorem k_18_0_ok : okc 18 0 k_18_0 = true := by decide +kernel
theorem k_18_3_ok : okc 18 3 k_18_3 = true := by decide +kernel
theorem k_18_36_ok : okc 18 36 k_18_36 = true := by decide +kernel
theorem k_18_47_ok : okc 18 47 k_18_47 = true := by decide +kernel
theorem k_18_48_ok : okc 18 48 k_18_48 = true := by decide +kernel
theorem k_18_57_ok : okc 18 57 k_18_57 = true := by decide +kernel
theorem k_18_79_ok : okc 18 79 k_18_79 = true := by decide +kernel
-- 19: RavenSupper$Flights.endPlan(LRavenSupper$World;II)Z
def k_19_0 : List Instr := [.bipush (0), .istore 4, .bipush (0), .istore 5, .iload 5, .aload 1, .getfield 500, .if_icmp .ge (124), .aload 1, .iload 5, .aload 0, .getstatic 202, .iload 5, .iaload, .invokeinterface 69 213, .istore 6, .iload 4, .iload 2, .iload 5, .invokeinterface 123 128, .ifCond .eq (46), .iload 6, .goto (47)]
def k_19_6 : List Instr := [.iload 5, .aload 1, .getfield 500, .if_icmp .ge (124), .aload 1, .iload 5, .aload 0, .getstatic 202, .iload 5, .iaload, .invokeinterface 69 213, .istore 6, .iload 4, .iload 2, .iload 5, .invokeinterface 123 128, .ifCond .eq (46), .iload 6, .goto (47)]
def k_19_46 : List Instr := [.bipush (0), .iadd, .istore 4, .bipush (0), .istore 7, .iload 7, .bipush (2), .if_icmp .ge (118), .aload 0, .getstatic 200, .iload 7, .iaload, .iload 5, .invokeinterface 123 128, .ifCond .eq (112), .aload 1, .iload 7, .iload 5, .aload 0, .getstatic 202, .iload 5, .iaload, .invokeinterface 20 256, .istore 8, .aload 0, .getstatic 201, .iload 7, .aaload, .iload 5, .iload 6, .aload 1, .iload 5, .iload 8, .invokeinterface 69 213, .isub, .iastore, .iinc 7 (1), .goto (53)]
def k_19_47 : List Instr := [.iadd, .istore 4, .bipush (0), .istore 7, .iload 7, .bipush (2), .if_icmp .ge (118), .aload 0, .getstatic 200, .iload 7, .iaload, .iload 5, .invokeinterface 123 128, .ifCond .eq (112), .aload 1, .iload 7, .iload 5, .aload 0, .getstatic 202, .iload 5, .iaload, .invokeinterface 20 256, .istore 8, .aload 0, .getstatic 201, .iload 7, .aaload, .iload 5, .iload 6, .aload 1, .iload 5, .iload 8, .invokeinterface 69 213, .isub, .iastore, .iinc 7 (1), .goto (53)]
def k_19_53 : List Instr := [.iload 7, .bipush (2), .if_icmp .ge (118), .aload 0, .getstatic 200, .iload 7, .iaload, .iload 5, .invokeinterface 123 128, .ifCond .eq (112), .aload 1, .iload 7, .iload 5, .aload 0, .getstatic 202, .iload 5, .iaload, .invokeinterface 20 256, .istore 8, .aload 0, .getstatic 201, .iload 7, .aaload, .iload 5, .iload 6, .aload 1, .iload 5, .iload 8, .invokeinterface 69 213, .isub, .iastore, .iinc 7 (1), .goto (53)]
def k_19_112 : List Instr := [.iinc 7 (1), .goto (53)]
def k_19_118 : List Instr := [.iinc 5 (1), .goto (6)]
def k_19_124 : List Instr := [.aload 0, .invokeinterface 14 82, .istore 5, .iload 4, .aload 0, .iload 5, .invokeinterface 10 146, .isub, .istore 4, .aload 0, .getfield 204, .bipush (-1), .if_icmp .eq (160), .iload 4, .aload 0, .getfield 204, .if_icmp .lt (160), .bipush (0), .freturn]
def k_19_160 : List Instr := [.aload 0, .iload 4, .putfield 204, .aload 0, .getstatic 203, .iload 3, .iload 5, .iastore, .bipush (1), .freturn]
theorem k_19_0_ok : okc 19 0 k_19_0 = true := by decide +kernel
theorem k_19_6_ok : okc 19 6 k_19_6 = true := by decide +kernel
theorem k_19_46_ok : okc 19 46 k_19_46 = true := by decide +kernel
theorem k_19_47_ok : okc 19 47 k_19_47 = true := by decide +kernel
theorem k_19_53_ok : okc 19 53 k_19_53 = true := by decide +kernel
theorem k_19_112_ok : okc 19 112 k_19_112 = true := by decide +kernel
theorem k_19_118_ok : okc 19 118 k_19_118 = true := by decide +kernel
theorem k_19_124_ok : okc 19 124 k_19_124 = true := by decide +kernel
theorem k_19_160_ok : okc 19 160 k_19_160 = true := by decide +kernel
-- 20: RavenSupper$Flights.behindVisit(LRavenSupper$World;III)I
def k_20_0 : List Instr := [.iload 3, .aload 0, .iload 1, .iload 2, .invokeinterface 65 213, .iload 3, .invokeinterface 25 64, .invokeinterface 24 192, .ireturn]
theorem k_20_0_ok : okc 20 0 k_20_0 = true := by decide +kernel
-- 21: RavenSupper$Odds.dayLater(III)I
def k_21_0 : List Instr := [.iload 0, .bipush (16), .iload 2, .isub, .imul, .bipush (16), .iload 0, .isub, .iload 1, .imul, .iadd, .bipush (16), .idiv, .ireturn]
theorem k_21_0_ok : okc 21 0 k_21_0 = true := by decide +kernel
-- 22: RavenSupper$Odds.doubt(I)I
def k_22_0 : List Instr := [.iload 0, .bipush (16), .iload 0, .isub, .fsub, .ireturn]
theorem k_22_0_ok : okc 22 0 k_22_0 = true := by decide +kernel
-- 23: RavenSupper$Odds.toldWar(II)I
def k_23_0 : List Instr := [.iload 0, .iload 1, .imul, .bipush (16), .iload 0, .isub, .bipush (16), .iload 1, .isub, .imul, .iadd, .ireturn]
theorem k_23_0_ok : okc 23 0 k_23_0 = true := by decide +kernel
-- 24: RavenSupper$Odds.behindTiding(IIZ)I
def k_24_0 : List Instr := [.iload 2, .ifCond .eq (8), .iload 1, .goto (12)]
def k_24_8 : List Instr := [.bipush (16), .iload 1, .isub, .istore 3, .iload 0, .iload 3, .invokeinterface 23 128, .istore 4, .iload 4, .ifCond .ne (29), .iload 0, .goto (38)]
def k_24_12 : List Instr := [.istore 3, .iload 0, .iload 3, .invokeinterface 23 128, .istore 4, .iload 4, .ifCond .ne (29), .iload 0, .goto (38)]
def k_24_29 : List Instr := [.bipush (16), .iload 0, .imul, .iload 3, .imul, .iload 4, .idiv, .ireturn]
def k_24_38 : List Instr := [.ireturn]
theorem k_24_0_ok : okc 24 0 k_24_0 = true := by decide +kernel
theorem k_24_8_ok : okc 24 8 k_24_8 = true := by decide +kernel
theorem k_24_12_ok : okc 24 12 k_24_12 = true := by decide +kernel
theorem k_24_29_ok : okc 24 29 k_24_29 = true := by decide +kernel
theorem k_24_38_ok : okc 24 38 k_24_38 = true := by decide +kernel
-- 25: RavenSupper$Odds.likelierWar(I)Z
def k_25_0 : List Instr := [.iload 0, .bipush (8), .if_icmp .lt (10), .bipush (1), .goto (11)]
def k_25_10 : List Instr := [.bipush (0), .freturn]
def k_25_11 : List Instr := [.freturn]
theorem k_25_0_ok : okc 25 0 k_25_0 = true := by decide +kernel
theorem k_25_10_ok : okc 25 10 k_25_10 = true := by decide +kernel
theorem k_25_11_ok : okc 25 11 k_25_11 = true := by decide +kernel
-- 26: RavenSupper$Odds.flightWorth(II)I
def k_26_0 : List Instr := [.iload 0, .iload 1, .invokeinterface 23 128, .istore 2, .bipush (256), .iload 2, .isub, .istore 3, .iload 0, .iload 1, .bipush (1), .invokeinterface 24 192, .invokeinterface 22 64, .istore 4, .iload 0, .iload 1, .bipush (0), .invokeinterface 24 192, .invokeinterface 22 64, .istore 5, .bipush (256), .iload 0, .invokeinterface 22 64, .imul, .iload 4, .iload 2, .imul, .isub, .iload 5, .iload 3, .imul, .isub, .ireturn]
theorem k_26_0_ok : okc 26 0 k_26_0 = true := by decide +kernel
-- 27: RavenSupper$Odds.sureness(II)I
def k_27_0 : List Instr := [.iload 0, .tableswitch 63 (2) (5) #[32, 38, 43, 57]]
def k_27_32 : List Instr := [.iload 1, .bipush (2), .invokeinterface 28 128, .ireturn]
def k_27_38 : List Instr := [.bipush (16), .iload 1, .isub, .ireturn]
def k_27_43 : List Instr := [.iload 1, .bipush (2), .invokeinterface 28 128, .bipush (8), .isub, .bipush (2), .idiv, .bipush (8), .iadd, .ireturn]
def k_27_57 : List Instr := [.iload 1, .bipush (3), .invokeinterface 28 128, .ireturn]
def k_27_63 : List Instr := [.iload 1, .ireturn]
theorem k_27_0_ok : okc 27 0 k_27_0 = true := by decide +kernel
theorem k_27_32_ok : okc 27 32 k_27_32 = true := by decide +kernel
theorem k_27_38_ok : okc 27 38 k_27_38 = true := by decide +kernel
theorem k_27_43_ok : okc 27 43 k_27_43 = true := by decide +kernel
theorem k_27_57_ok : okc 27 57 k_27_57 = true := by decide +kernel
theorem k_27_63_ok : okc 27 63 k_27_63 = true := by decide +kernel
-- 28: RavenSupper$Odds.less(II)I
def k_28_0 : List Instr := [.iload 0, .iload 1, .isub, .bipush (8), .fadd, .ireturn]
theorem k_28_0_ok : okc 28 0 k_28_0 = true := by decide +kernel
-- 29: RavenSupper$Odds.lateness(I)I
def k_29_0 : List Instr := [.iload 0, .lookupswitch 32 #[(1, 28), (5, 30)]]
def k_29_28 : List Instr := [.bipush (1), .ireturn]
def k_29_30 : List Instr := [.bipush (3), .ireturn]
def k_29_32 : List Instr := [.bipush (0), .ireturn]
theorem k_29_0_ok : okc 29 0 k_29_0 = true := by decide +kernel
theorem k_29_28_ok : okc 29 28 k_29_28 = true := by decide +kernel
theorem k_29_30_ok : okc 29 30 k_29_30 = true := by decide +kernel
theorem k_29_32_ok : okc 29 32 k_29_32 = true := by decide +kernel
-- 30: RavenSupper$Odds.makesWar(III)Z
def k_30_0 : List Instr := [.iload 0, .bipush (16), .iload 2, .isub, .imul, .iload 1, .iload 2, .imul, .if_icmp .le (16), .bipush (1), .goto (17)]
def k_30_16 : List Instr := [.bipush (0), .freturn]
def k_30_17 : List Instr := [.freturn]
theorem k_30_0_ok : okc 30 0 k_30_0 = true := by decide +kernel
theorem k_30_16_ok : okc 30 16 k_30_16 = true := by decide +kernel
theorem k_30_17_ok : okc 30 17 k_30_17 = true := by decide +kernel
-- 31: RavenSupper$Rounds.find(LRavenSupper$World;III)Z
def k_31_0 : List Instr := [.aload 0, .iload 2, .putfield 301, .aload 0, .aload 1, .bipush (0), .invokeinterface 64 149, .putfield 302, .aload 0, .iload 3, .putfield 303, .aload 0, .iload 4, .iload 2, .fsub, .putfield 304, .aload 0, .getfield 303, .aload 0, .getfield 302, .iand, .aload 0, .getfield 303, .if_icmp .ne (57), .aload 0, .bipush (0), .invokeinterface 32 128, .ifCond .eq (57), .bipush (1), .goto (58)]
def k_31_57 : List Instr := [.bipush (0), .freturn]
def k_31_58 : List Instr := [.freturn]
theorem k_31_0_ok : okc 31 0 k_31_0 = true := by decide +kernel
theorem k_31_57_ok : okc 31 57 k_31_57 = true := by decide +kernel
theorem k_31_58_ok : okc 31 58 k_31_58 = true := by decide +kernel
-- 32: RavenSupper$Rounds.fill(LRavenSupper$Rounds;I)Z
def k_32_0 : List Instr := [.iload 1, .aload 0, .getfield 301, .if_icmp .ge (13), .iload 1, .bipush (5), .if_icmp .lt (18), .aload 0, .invokeinterface 34 83, .freturn]
def k_32_13 : List Instr := [.aload 0, .invokeinterface 34 83, .freturn]
def k_32_18 : List Instr := [.bipush (0), .istore 2, .iload 2, .bipush (6), .if_icmp .ge (70), .aload 0, .getstatic 300, .iload 1, .iload 2, .iastore, .aload 0, .getfield 302, .iload 2, .invokeinterface 123 128, .ifCond .eq (64), .aload 0, .iload 1, .invokeinterface 33 147, .ifCond .eq (64), .aload 0, .iload 1, .bipush (1), .iadd, .invokeinterface 32 128, .ifCond .eq (64), .bipush (1), .freturn]
def k_32_20 : List Instr := [.iload 2, .bipush (6), .if_icmp .ge (70), .aload 0, .getstatic 300, .iload 1, .iload 2, .iastore, .aload 0, .getfield 302, .iload 2, .invokeinterface 123 128, .ifCond .eq (64), .aload 0, .iload 1, .invokeinterface 33 147, .ifCond .eq (64), .aload 0, .iload 1, .bipush (1), .iadd, .invokeinterface 32 128, .ifCond .eq (64), .bipush (1), .freturn]
def k_32_64 : List Instr := [.iinc 2 (1), .goto (20)]
def k_32_70 : List Instr := [.bipush (0), .freturn]
theorem k_32_0_ok : okc 32 0 k_32_0 = true := by decide +kernel
theorem k_32_13_ok : okc 32 13 k_32_13 = true := by decide +kernel
theorem k_32_18_ok : okc 32 18 k_32_18 = true := by decide +kernel
theorem k_32_20_ok : okc 32 20 k_32_20 = true := by decide +kernel
theorem k_32_64_ok : okc 32 64 k_32_64 = true := by decide +kernel
theorem k_32_70_ok : okc 32 70 k_32_70 = true := by decide +kernel
-- 33: RavenSupper$Rounds.mayGoOn(I)Z
def k_33_0 : List Instr := [.bipush (0), .iload 1, .bipush (1), .iadd, .aload 0, .getfield 304, .isub, .fadd, .istore 2, .iload 1, .bipush (1), .iadd, .iload 2, .isub, .istore 3, .aload 0, .getfield 303, .aload 0, .iload 2, .iload 3, .invokeinterface 35 211, .bipush (-1), .ixor, .iand, .invokeinterface 211 64, .aload 0, .getfield 304, .iload 3, .isub, .if_icmp .gt (48), .bipush (1), .goto (49)]
def k_33_48 : List Instr := [.bipush (0), .freturn]
def k_33_49 : List Instr := [.freturn]
theorem k_33_0_ok : okc 33 0 k_33_0 = true := by decide +kernel
theorem k_33_48_ok : okc 33 48 k_33_48 = true := by decide +kernel
theorem k_33_49_ok : okc 33 49 k_33_49 = true := by decide +kernel
-- 34: RavenSupper$Rounds.seesAll()Z
def k_34_0 : List Instr := [.bipush (0), .istore 1, .iload 1, .aload 0, .getfield 301, .if_icmp .ge (39), .aload 0, .iload 1, .aload 0, .getfield 304, .invokeinterface 35 211, .aload 0, .getfield 303, .iand, .aload 0, .getfield 303, .if_icmp .eq (33), .bipush (0), .freturn]
def k_34_2 : List Instr := [.iload 1, .aload 0, .getfield 301, .if_icmp .ge (39), .aload 0, .iload 1, .aload 0, .getfield 304, .invokeinterface 35 211, .aload 0, .getfield 303, .iand, .aload 0, .getfield 303, .if_icmp .eq (33), .bipush (0), .freturn]
def k_34_33 : List Instr := [.iinc 1 (1), .goto (2)]
def k_34_39 : List Instr := [.bipush (1), .freturn]
theorem k_34_0_ok : okc 34 0 k_34_0 = true := by decide +kernel
theorem k_34_2_ok : okc 34 2 k_34_2 = true := by decide +kernel
theorem k_34_33_ok : okc 34 33 k_34_33 = true := by decide +kernel
theorem k_34_39_ok : okc 34 39 k_34_39 = true := by decide +kernel
-- 35: RavenSupper$Rounds.seenFrom(II)I
def k_35_0 : List Instr := [.bipush (0), .istore 3, .iload 1, .istore 4, .iload 4, .iload 1, .iload 2, .iadd, .if_icmp .ge (68), .iload 4, .aload 0, .getfield 301, .if_icmp .ge (27), .iload 4, .goto (34)]
def k_35_5 : List Instr := [.iload 4, .iload 1, .iload 2, .iadd, .if_icmp .ge (68), .iload 4, .aload 0, .getfield 301, .if_icmp .ge (27), .iload 4, .goto (34)]
def k_35_27 : List Instr := [.iload 4, .aload 0, .getfield 301, .isub, .istore 5, .iload 3, .iload 5, .bipush (0), .bipush (4), .invokeinterface 120 192, .ifCond .eq (59), .bipush (1), .aload 0, .getstatic 300, .iload 5, .iaload, .ishl, .goto (60)]
def k_35_34 : List Instr := [.istore 5, .iload 3, .iload 5, .bipush (0), .bipush (4), .invokeinterface 120 192, .ifCond .eq (59), .bipush (1), .aload 0, .getstatic 300, .iload 5, .iaload, .ishl, .goto (60)]
def k_35_59 : List Instr := [.bipush (0), .ior, .istore 3, .iinc 4 (1), .goto (5)]
def k_35_60 : List Instr := [.ior, .istore 3, .iinc 4 (1), .goto (5)]
def k_35_68 : List Instr := [.iload 3, .ireturn]
theorem k_35_0_ok : okc 35 0 k_35_0 = true := by decide +kernel
theorem k_35_5_ok : okc 35 5 k_35_5 = true := by decide +kernel
theorem k_35_27_ok : okc 35 27 k_35_27 = true := by decide +kernel
theorem k_35_34_ok : okc 35 34 k_35_34 = true := by decide +kernel
theorem k_35_59_ok : okc 35 59 k_35_59 = true := by decide +kernel
theorem k_35_60_ok : okc 35 60 k_35_60 = true := by decide +kernel
theorem k_35_68_ok : okc 35 68 k_35_68 = true := by decide +kernel
-- 100: RavenSupper$Caws.<init>()V
def k_100_0 : List Instr := [.aload 0, .nop, .aload 0, .bipush (8), .anewarray 8, .putstatic 1, .aload 0, .bipush (8), .anewarray 8, .putstatic 2, .aload 0, .bipush (8), .anewarray 9, .putstatic 3, .return_]
theorem k_100_0_ok : okc 100 0 k_100_0 = true := by decide +kernel
-- 101: RavenSupper$Evening.<init>()V
def k_101_0 : List Instr := [.aload 0, .nop, .aload 0, .bipush (6), .anewarray 8, .putstatic 101, .aload 0, .bipush (2), .anewarray 8, .putstatic 102, .aload 0, .bipush (2), .anewarray 8, .putstatic 103, .aload 0, .bipush (2), .anewarray 9, .putstatic 104, .return_]
theorem k_101_0_ok : okc 101 0 k_101_0 = true := by decide +kernel
-- 102: RavenSupper$Flights.<init>()V
def k_102_0 : List Instr := [.aload 0, .nop, .aload 0, .bipush (2), .anewarray 8, .putstatic 200, .aload 0, .bipush (2), .bipush (8), .multianewarray 0 0, .putstatic 201, .aload 0, .bipush (6), .anewarray 8, .putstatic 202, .aload 0, .bipush (2), .anewarray 8, .putstatic 203, .return_]
theorem k_102_0_ok : okc 102 0 k_102_0 = true := by decide +kernel
-- 103: RavenSupper$Rounds.<init>()V
def k_103_0 : List Instr := [.aload 0, .nop, .aload 0, .bipush (5), .anewarray 8, .putstatic 300, .return_]
theorem k_103_0_ok : okc 103 0 k_103_0 = true := by decide +kernel
-- 225: RavenSupper$Flights.isPlace(I)Z
def k_225_0 : List Instr := [.iload 0, .bipush (0), .bipush (7), .invokeinterface 120 192, .freturn]
theorem k_225_0_ok : okc 225 0 k_225_0 = true := by decide +kernel
