/-! LINKED CODES: k_<method>_<label>, the instructions from a label to the next unconditional end; each is checked against the machine's decoding (printed by wip/whole/gen13.py) -/
-- 107: RavenSupperModel.<init>()V
def k_107_0 : List Instr := [.aload 0, .nop, .aload 0, .bipush (196), .anewarray 8, .putstatic 700, .aload 0, .bipush (196), .anewarray 8, .putstatic 701, .aload 0, .bipush (392), .anewarray 8, .putstatic 702, .aload 0, .bipush (2), .anewarray 9, .putstatic 703, .aload 0, .bipush (3), .anewarray 8, .putstatic 704, .aload 0, .bipush (150), .anewarray 8, .putstatic 705, .aload 0, .bipush (6), .anewarray 8, .putstatic 707, .aload 0, .bipush (6), .anewarray 8, .putstatic 708, .aload 0, .bipush (3), .anewarray 8, .putstatic 713, .aload 0, .getstatic 700, .bipush (4), .invokeinterface 133 128, .return_]
theorem k_107_ok : (okc 107 0 k_107_0) = true := by decide +kernel
-- 108: RavenSupperLaw.law([I)Z
def k_108_0 : List Instr := [.new 6, .dup, .invokeinterface 106 118, .astore 1, .new 7, .dup, .invokeinterface 107 119, .astore 2, .bipush (0), .istore 3, .iload 3, .aload 0, .arraylength, .bipush (5), .isub, .if_icmp .gt (1258), .aload 0, .iload 3, .saload, .bipush (63), .iand, .tableswitch 1252 (0) (32) #[180, 203, 236, 279, 322, 365, 388, 401, 414, 483, 496, 509, 542, 575, 608, 661, 694, 727, 760, 783, 826, 859, 912, 965, 1024, 1037, 1060, 1113, 1146, 1169, 1192, 1215, 1238]]
def k_108_18 : List Instr := [.iload 3, .aload 0, .arraylength, .bipush (5), .isub, .if_icmp .gt (1258), .aload 0, .iload 3, .saload, .bipush (63), .iand, .tableswitch 1252 (0) (32) #[180, 203, 236, 279, 322, 365, 388, 401, 414, 483, 496, 509, 542, 575, 608, 661, 694, 727, 760, 783, 826, 859, 912, 965, 1024, 1037, 1060, 1113, 1146, 1169, 1192, 1215, 1238]]
def k_108_180 : List Instr := [.aload 1, .aload 0, .iload 3, .bipush (1), .iadd, .saload, .invokeinterface 76 150, .aload 2, .aload 0, .iload 3, .bipush (1), .iadd, .saload, .invokeinterface 144 151, .if_icmp .eq (1252), .bipush (0), .freturn]
def k_108_203 : List Instr := [.aload 1, .aload 0, .iload 3, .bipush (1), .iadd, .saload, .aload 0, .iload 3, .bipush (2), .iadd, .saload, .invokeinterface 77 214, .aload 2, .aload 0, .iload 3, .bipush (1), .iadd, .saload, .aload 0, .iload 3, .bipush (2), .iadd, .saload, .invokeinterface 145 215, .if_icmp .eq (1252), .bipush (0), .freturn]
def k_108_236 : List Instr := [.aload 1, .aload 0, .iload 3, .bipush (1), .iadd, .saload, .aload 0, .iload 3, .bipush (2), .iadd, .saload, .aload 0, .iload 3, .bipush (3), .iadd, .saload, .invokeinterface 78 278, .aload 2, .aload 0, .iload 3, .bipush (1), .iadd, .saload, .aload 0, .iload 3, .bipush (2), .iadd, .saload, .aload 0, .iload 3, .bipush (3), .iadd, .saload, .invokeinterface 146 279, .if_icmp .eq (1252), .bipush (0), .freturn]
def k_108_279 : List Instr := [.aload 1, .aload 0, .iload 3, .bipush (1), .iadd, .saload, .aload 0, .iload 3, .bipush (2), .iadd, .saload, .aload 0, .iload 3, .bipush (3), .iadd, .saload, .invokeinterface 79 278, .aload 2, .aload 0, .iload 3, .bipush (1), .iadd, .saload, .aload 0, .iload 3, .bipush (2), .iadd, .saload, .aload 0, .iload 3, .bipush (3), .iadd, .saload, .invokeinterface 147 279, .if_icmp .eq (1252), .bipush (0), .freturn]
def k_108_322 : List Instr := [.aload 1, .aload 0, .iload 3, .bipush (1), .iadd, .saload, .aload 0, .iload 3, .bipush (2), .iadd, .saload, .aload 0, .iload 3, .bipush (3), .iadd, .saload, .invokeinterface 80 278, .aload 2, .aload 0, .iload 3, .bipush (1), .iadd, .saload, .aload 0, .iload 3, .bipush (2), .iadd, .saload, .aload 0, .iload 3, .bipush (3), .iadd, .saload, .invokeinterface 148 279, .if_icmp .eq (1252), .bipush (0), .freturn]
def k_108_365 : List Instr := [.aload 1, .aload 0, .iload 3, .bipush (1), .iadd, .saload, .invokeinterface 81 150, .aload 2, .aload 0, .iload 3, .bipush (1), .iadd, .saload, .invokeinterface 149 151, .if_icmp .eq (1252), .bipush (0), .freturn]
def k_108_388 : List Instr := [.aload 1, .invokeinterface 82 86, .aload 2, .invokeinterface 150 87, .if_icmp .eq (1252), .bipush (0), .freturn]
def k_108_401 : List Instr := [.aload 1, .invokeinterface 83 86, .aload 2, .invokeinterface 160 87, .if_icmp .eq (1252), .bipush (0), .freturn]
def k_108_414 : List Instr := [.aload 1, .aload 0, .iload 3, .bipush (1), .iadd, .saload, .aload 0, .iload 3, .bipush (2), .iadd, .saload, .aload 0, .iload 3, .bipush (3), .iadd, .saload, .aload 0, .iload 3, .bipush (4), .iadd, .saload, .ifCond .eq (442), .bipush (1), .goto (443)]
def k_108_442 : List Instr := [.bipush (0), .invokeinterface 84 342, .aload 2, .aload 0, .iload 3, .bipush (1), .iadd, .saload, .aload 0, .iload 3, .bipush (2), .iadd, .saload, .aload 0, .iload 3, .bipush (3), .iadd, .saload, .aload 0, .iload 3, .bipush (4), .iadd, .saload, .ifCond .eq (474), .bipush (1), .goto (475)]
def k_108_443 : List Instr := [.invokeinterface 84 342, .aload 2, .aload 0, .iload 3, .bipush (1), .iadd, .saload, .aload 0, .iload 3, .bipush (2), .iadd, .saload, .aload 0, .iload 3, .bipush (3), .iadd, .saload, .aload 0, .iload 3, .bipush (4), .iadd, .saload, .ifCond .eq (474), .bipush (1), .goto (475)]
def k_108_474 : List Instr := [.bipush (0), .invokeinterface 169 343, .if_icmp .eq (1252), .bipush (0), .freturn]
def k_108_475 : List Instr := [.invokeinterface 169 343, .if_icmp .eq (1252), .bipush (0), .freturn]
def k_108_483 : List Instr := [.aload 1, .invokeinterface 85 86, .aload 2, .invokeinterface 171 87, .if_icmp .eq (1252), .bipush (0), .freturn]
def k_108_496 : List Instr := [.aload 1, .invokeinterface 86 86, .aload 2, .invokeinterface 172 87, .if_icmp .eq (1252), .bipush (0), .freturn]
def k_108_509 : List Instr := [.aload 1, .aload 0, .iload 3, .bipush (1), .iadd, .saload, .aload 0, .iload 3, .bipush (2), .iadd, .saload, .invokeinterface 87 214, .aload 2, .aload 0, .iload 3, .bipush (1), .iadd, .saload, .aload 0, .iload 3, .bipush (2), .iadd, .saload, .invokeinterface 174 215, .if_icmp .eq (1252), .bipush (0), .freturn]
def k_108_542 : List Instr := [.aload 1, .aload 0, .iload 3, .bipush (1), .iadd, .saload, .aload 0, .iload 3, .bipush (2), .iadd, .saload, .invokeinterface 88 214, .aload 2, .aload 0, .iload 3, .bipush (1), .iadd, .saload, .aload 0, .iload 3, .bipush (2), .iadd, .saload, .invokeinterface 175 215, .if_icmp .eq (1252), .bipush (0), .freturn]
def k_108_575 : List Instr := [.aload 1, .aload 0, .iload 3, .bipush (1), .iadd, .saload, .aload 0, .iload 3, .bipush (2), .iadd, .saload, .invokeinterface 89 214, .aload 2, .aload 0, .iload 3, .bipush (1), .iadd, .saload, .aload 0, .iload 3, .bipush (2), .iadd, .saload, .invokeinterface 176 215, .if_icmp .eq (1252), .bipush (0), .freturn]
def k_108_608 : List Instr := [.aload 1, .aload 0, .iload 3, .bipush (1), .iadd, .saload, .aload 0, .iload 3, .bipush (2), .iadd, .saload, .aload 0, .iload 3, .bipush (3), .iadd, .saload, .aload 0, .iload 3, .bipush (4), .iadd, .saload, .invokeinterface 90 342, .aload 2, .aload 0, .iload 3, .bipush (1), .iadd, .saload, .aload 0, .iload 3, .bipush (2), .iadd, .saload, .aload 0, .iload 3, .bipush (3), .iadd, .saload, .aload 0, .iload 3, .bipush (4), .iadd, .saload, .invokeinterface 177 343, .if_icmp .eq (1252), .bipush (0), .freturn]
def k_108_661 : List Instr := [.aload 1, .aload 0, .iload 3, .bipush (1), .iadd, .saload, .aload 0, .iload 3, .bipush (2), .iadd, .saload, .invokeinterface 91 214, .aload 2, .aload 0, .iload 3, .bipush (1), .iadd, .saload, .aload 0, .iload 3, .bipush (2), .iadd, .saload, .invokeinterface 178 215, .if_icmp .eq (1252), .bipush (0), .freturn]
def k_108_694 : List Instr := [.aload 1, .aload 0, .iload 3, .bipush (1), .iadd, .saload, .aload 0, .iload 3, .bipush (2), .iadd, .saload, .invokeinterface 92 214, .aload 2, .aload 0, .iload 3, .bipush (1), .iadd, .saload, .aload 0, .iload 3, .bipush (2), .iadd, .saload, .invokeinterface 180 215, .if_icmp .eq (1252), .bipush (0), .freturn]
def k_108_727 : List Instr := [.aload 1, .aload 0, .iload 3, .bipush (1), .iadd, .saload, .aload 0, .iload 3, .bipush (2), .iadd, .saload, .invokeinterface 93 214, .aload 2, .aload 0, .iload 3, .bipush (1), .iadd, .saload, .aload 0, .iload 3, .bipush (2), .iadd, .saload, .invokeinterface 185 215, .if_icmp .eq (1252), .bipush (0), .freturn]
def k_108_760 : List Instr := [.aload 1, .aload 0, .iload 3, .bipush (1), .iadd, .saload, .invokeinterface 94 150, .aload 2, .aload 0, .iload 3, .bipush (1), .iadd, .saload, .invokeinterface 186 151, .if_icmp .eq (1252), .bipush (0), .freturn]
def k_108_783 : List Instr := [.aload 1, .aload 0, .iload 3, .bipush (1), .iadd, .saload, .aload 0, .iload 3, .bipush (2), .iadd, .saload, .aload 0, .iload 3, .bipush (3), .iadd, .saload, .invokeinterface 95 278, .aload 2, .aload 0, .iload 3, .bipush (1), .iadd, .saload, .aload 0, .iload 3, .bipush (2), .iadd, .saload, .aload 0, .iload 3, .bipush (3), .iadd, .saload, .invokeinterface 190 279, .if_icmp .eq (1252), .bipush (0), .freturn]
def k_108_826 : List Instr := [.aload 1, .aload 0, .iload 3, .bipush (1), .iadd, .saload, .aload 0, .iload 3, .bipush (2), .iadd, .saload, .invokeinterface 96 214, .aload 2, .aload 0, .iload 3, .bipush (1), .iadd, .saload, .aload 0, .iload 3, .bipush (2), .iadd, .saload, .invokeinterface 193 215, .if_icmp .eq (1252), .bipush (0), .freturn]
def k_108_859 : List Instr := [.aload 1, .aload 0, .iload 3, .bipush (1), .iadd, .saload, .aload 0, .iload 3, .bipush (2), .iadd, .saload, .aload 0, .iload 3, .bipush (3), .iadd, .saload, .aload 0, .iload 3, .bipush (4), .iadd, .saload, .invokeinterface 97 342, .aload 2, .aload 0, .iload 3, .bipush (1), .iadd, .saload, .aload 0, .iload 3, .bipush (2), .iadd, .saload, .aload 0, .iload 3, .bipush (3), .iadd, .saload, .aload 0, .iload 3, .bipush (4), .iadd, .saload, .invokeinterface 194 343, .if_icmp .eq (1252), .bipush (0), .freturn]
def k_108_912 : List Instr := [.aload 1, .aload 0, .iload 3, .bipush (1), .iadd, .saload, .aload 0, .iload 3, .bipush (2), .iadd, .saload, .aload 0, .iload 3, .bipush (3), .iadd, .saload, .aload 0, .iload 3, .bipush (4), .iadd, .saload, .invokeinterface 98 342, .aload 2, .aload 0, .iload 3, .bipush (1), .iadd, .saload, .aload 0, .iload 3, .bipush (2), .iadd, .saload, .aload 0, .iload 3, .bipush (3), .iadd, .saload, .aload 0, .iload 3, .bipush (4), .iadd, .saload, .invokeinterface 197 343, .if_icmp .eq (1252), .bipush (0), .freturn]
def k_108_965 : List Instr := [.aload 1, .aload 0, .iload 3, .bipush (1), .iadd, .saload, .aload 0, .iload 3, .bipush (2), .iadd, .saload, .aload 0, .iload 3, .bipush (3), .iadd, .saload, .ifCond .eq (988), .bipush (1), .goto (989)]
def k_108_988 : List Instr := [.bipush (0), .invokeinterface 99 278, .aload 2, .aload 0, .iload 3, .bipush (1), .iadd, .saload, .aload 0, .iload 3, .bipush (2), .iadd, .saload, .aload 0, .iload 3, .bipush (3), .iadd, .saload, .ifCond .eq (1015), .bipush (1), .goto (1016)]
def k_108_989 : List Instr := [.invokeinterface 99 278, .aload 2, .aload 0, .iload 3, .bipush (1), .iadd, .saload, .aload 0, .iload 3, .bipush (2), .iadd, .saload, .aload 0, .iload 3, .bipush (3), .iadd, .saload, .ifCond .eq (1015), .bipush (1), .goto (1016)]
def k_108_1015 : List Instr := [.bipush (0), .invokeinterface 198 279, .if_icmp .eq (1252), .bipush (0), .freturn]
def k_108_1016 : List Instr := [.invokeinterface 198 279, .if_icmp .eq (1252), .bipush (0), .freturn]
def k_108_1024 : List Instr := [.aload 1, .invokeinterface 109 86, .aload 2, .invokeinterface 199 87, .if_icmp .eq (1252), .bipush (0), .freturn]
def k_108_1037 : List Instr := [.aload 1, .aload 0, .iload 3, .bipush (1), .iadd, .saload, .invokeinterface 110 150, .aload 2, .aload 0, .iload 3, .bipush (1), .iadd, .saload, .invokeinterface 201 151, .if_icmp .eq (1252), .bipush (0), .freturn]
def k_108_1060 : List Instr := [.aload 1, .aload 0, .iload 3, .bipush (1), .iadd, .saload, .aload 0, .iload 3, .bipush (2), .iadd, .saload, .aload 0, .iload 3, .bipush (3), .iadd, .saload, .aload 0, .iload 3, .bipush (4), .iadd, .saload, .invokeinterface 111 342, .aload 2, .aload 0, .iload 3, .bipush (1), .iadd, .saload, .aload 0, .iload 3, .bipush (2), .iadd, .saload, .aload 0, .iload 3, .bipush (3), .iadd, .saload, .aload 0, .iload 3, .bipush (4), .iadd, .saload, .invokeinterface 202 343, .if_icmp .eq (1252), .bipush (0), .freturn]
def k_108_1113 : List Instr := [.aload 1, .aload 0, .iload 3, .bipush (1), .iadd, .saload, .aload 0, .iload 3, .bipush (2), .iadd, .saload, .invokeinterface 112 214, .aload 2, .aload 0, .iload 3, .bipush (1), .iadd, .saload, .aload 0, .iload 3, .bipush (2), .iadd, .saload, .invokeinterface 203 215, .if_icmp .eq (1252), .bipush (0), .freturn]
def k_108_1146 : List Instr := [.aload 1, .aload 0, .iload 3, .bipush (1), .iadd, .saload, .invokeinterface 113 150, .aload 2, .aload 0, .iload 3, .bipush (1), .iadd, .saload, .invokeinterface 204 151, .if_icmp .eq (1252), .bipush (0), .freturn]
def k_108_1169 : List Instr := [.aload 1, .aload 0, .iload 3, .bipush (1), .iadd, .saload, .invokeinterface 114 150, .aload 2, .aload 0, .iload 3, .bipush (1), .iadd, .saload, .invokeinterface 205 151, .if_icmp .eq (1252), .bipush (0), .freturn]
def k_108_1192 : List Instr := [.aload 1, .aload 0, .iload 3, .bipush (1), .iadd, .saload, .invokeinterface 115 150, .aload 2, .aload 0, .iload 3, .bipush (1), .iadd, .saload, .invokeinterface 206 151, .if_icmp .eq (1252), .bipush (0), .freturn]
def k_108_1215 : List Instr := [.aload 1, .aload 0, .iload 3, .bipush (1), .iadd, .saload, .invokeinterface 116 150, .aload 2, .aload 0, .iload 3, .bipush (1), .iadd, .saload, .invokeinterface 209 151, .if_icmp .eq (1252), .bipush (0), .freturn]
def k_108_1238 : List Instr := [.aload 1, .invokeinterface 117 86, .aload 2, .invokeinterface 210 87, .lcmp, .ifCond .eq (1252), .bipush (0), .freturn]
def k_108_1252 : List Instr := [.iinc 3 (5), .goto (18)]
def k_108_1258 : List Instr := [.bipush (1), .freturn]
theorem k_108_ok : (okc 108 0 k_108_0 && okc 108 18 k_108_18 && okc 108 180 k_108_180 && okc 108 203 k_108_203 && okc 108 236 k_108_236 && okc 108 279 k_108_279 && okc 108 322 k_108_322 && okc 108 365 k_108_365 && okc 108 388 k_108_388 && okc 108 401 k_108_401 && okc 108 414 k_108_414 && okc 108 442 k_108_442 && okc 108 443 k_108_443 && okc 108 474 k_108_474 && okc 108 475 k_108_475 && okc 108 483 k_108_483 && okc 108 496 k_108_496 && okc 108 509 k_108_509 && okc 108 542 k_108_542 && okc 108 575 k_108_575 && okc 108 608 k_108_608 && okc 108 661 k_108_661 && okc 108 694 k_108_694 && okc 108 727 k_108_727 && okc 108 760 k_108_760 && okc 108 783 k_108_783 && okc 108 826 k_108_826 && okc 108 859 k_108_859 && okc 108 912 k_108_912 && okc 108 965 k_108_965 && okc 108 988 k_108_988 && okc 108 989 k_108_989 && okc 108 1015 k_108_1015 && okc 108 1016 k_108_1016 && okc 108 1024 k_108_1024 && okc 108 1037 k_108_1037 && okc 108 1060 k_108_1060 && okc 108 1113 k_108_1113 && okc 108 1146 k_108_1146 && okc 108 1169 k_108_1169 && okc 108 1192 k_108_1192 && okc 108 1215 k_108_1215 && okc 108 1238 k_108_1238 && okc 108 1252 k_108_1252 && okc 108 1258 k_108_1258) = true := by decide +kernel
-- 125: RavenSupperModel.in(III)Z
def k_125_0 : List Instr := [.iload 0, .iload 1, .if_icmp .lt (14), .iload 0, .iload 2, .if_icmp .gt (14), .bipush (1), .goto (15)]
def k_125_14 : List Instr := [.bipush (0), .freturn]
def k_125_15 : List Instr := [.freturn]
theorem k_125_ok : (okc 125 0 k_125_0 && okc 125 14 k_125_14 && okc 125 15 k_125_15) = true := by decide +kernel
-- 126: RavenSupperModel.has(II)Z
def k_126_0 : List Instr := [.iload 0, .iload 1, .ishr, .bipush (1), .iand, .bipush (1), .if_icmp .ne (13), .bipush (1), .goto (14)]
def k_126_13 : List Instr := [.bipush (0), .freturn]
def k_126_14 : List Instr := [.freturn]
theorem k_126_ok : (okc 126 0 k_126_0 && okc 126 13 k_126_13 && okc 126 14 k_126_14) = true := by decide +kernel
-- 127: RavenSupperModel.most(II)I
def k_127_0 : List Instr := [.iload 0, .iload 1, .if_icmp .le (9), .iload 0, .goto (10)]
def k_127_9 : List Instr := [.iload 1, .ireturn]
def k_127_10 : List Instr := [.ireturn]
theorem k_127_ok : (okc 127 0 k_127_0 && okc 127 9 k_127_9 && okc 127 10 k_127_10) = true := by decide +kernel
-- 128: RavenSupperModel.bad()I
def k_128_0 : List Instr := [.aload 0, .getstatic 704, .bipush (0), .dup2, .iaload, .bipush (1), .iadd, .iastore, .bipush (-2), .ireturn]
theorem k_128_ok : (okc 128 0 k_128_0) = true := by decide +kernel
-- 129: RavenSupperModel.badAs(I)I
def k_129_0 : List Instr := [.aload 0, .getstatic 704, .bipush (0), .dup2, .iaload, .bipush (1), .iadd, .iastore, .iload 1, .ireturn]
theorem k_129_ok : (okc 129 0 k_129_0) = true := by decide +kernel
-- 130: RavenSupperModel.no()I
def k_130_0 : List Instr := [.aload 0, .getstatic 704, .bipush (1), .dup2, .iaload, .bipush (1), .iadd, .iastore, .bipush (-3), .ireturn]
theorem k_130_ok : (okc 130 0 k_130_0) = true := by decide +kernel
-- 131: RavenSupperModel.full()I
def k_131_0 : List Instr := [.aload 0, .getstatic 704, .bipush (2), .dup2, .iaload, .bipush (1), .iadd, .iastore, .bipush (-4), .ireturn]
theorem k_131_ok : (okc 131 0 k_131_0) = true := by decide +kernel
-- 132: RavenSupperModel.copies([II[II)V
def k_132_0 : List Instr := [.bipush (0), .istore 4, .iload 4, .bipush (196), .if_icmp .ge (29), .aload 2, .iload 3, .iload 4, .iadd, .aload 0, .iload 1, .iload 4, .iadd, .iaload, .iastore, .iinc 4 (1), .goto (3)]
def k_132_3 : List Instr := [.iload 4, .bipush (196), .if_icmp .ge (29), .aload 2, .iload 3, .iload 4, .iadd, .aload 0, .iload 1, .iload 4, .iadd, .iaload, .iastore, .iinc 4 (1), .goto (3)]
def k_132_29 : List Instr := [.return_]
theorem k_132_ok : (okc 132 0 k_132_0 && okc 132 3 k_132_3 && okc 132 29 k_132_29) = true := by decide +kernel
-- 133: RavenSupperModel.anew([II)V
def k_133_0 : List Instr := [.bipush (0), .istore 2, .iload 2, .bipush (196), .if_icmp .ge (19), .aload 0, .iload 2, .bipush (0), .iastore, .iinc 2 (1), .goto (2)]
def k_133_2 : List Instr := [.iload 2, .bipush (196), .if_icmp .ge (19), .aload 0, .iload 2, .bipush (0), .iastore, .iinc 2 (1), .goto (2)]
def k_133_19 : List Instr := [.aload 0, .bipush (0), .iload 1, .iastore, .bipush (0), .istore 2, .iload 2, .bipush (6), .if_icmp .ge (68), .aload 0, .bipush (4), .bipush (3), .iload 2, .imul, .iadd, .bipush (0), .iadd, .bipush (8), .iastore, .aload 0, .bipush (4), .bipush (3), .iload 2, .imul, .iadd, .bipush (1), .iadd, .bipush (2), .iastore, .aload 0, .bipush (4), .bipush (3), .iload 2, .imul, .iadd, .bipush (2), .iadd, .bipush (2), .iastore, .iinc 2 (1), .goto (25)]
def k_133_25 : List Instr := [.iload 2, .bipush (6), .if_icmp .ge (68), .aload 0, .bipush (4), .bipush (3), .iload 2, .imul, .iadd, .bipush (0), .iadd, .bipush (8), .iastore, .aload 0, .bipush (4), .bipush (3), .iload 2, .imul, .iadd, .bipush (1), .iadd, .bipush (2), .iastore, .aload 0, .bipush (4), .bipush (3), .iload 2, .imul, .iadd, .bipush (2), .iadd, .bipush (2), .iastore, .iinc 2 (1), .goto (25)]
def k_133_68 : List Instr := [.bipush (0), .istore 2, .iload 2, .bipush (2), .if_icmp .ge (115), .aload 0, .bipush (58), .bipush (5), .iload 2, .imul, .iadd, .bipush (0), .iadd, .bipush (12), .iastore, .aload 0, .bipush (58), .bipush (5), .iload 2, .imul, .iadd, .bipush (1), .iadd, .bipush (4), .iastore, .aload 0, .bipush (58), .bipush (5), .iload 2, .imul, .iadd, .bipush (2), .iadd, .bipush (-1), .iastore, .iinc 2 (1), .goto (70)]
def k_133_70 : List Instr := [.iload 2, .bipush (2), .if_icmp .ge (115), .aload 0, .bipush (58), .bipush (5), .iload 2, .imul, .iadd, .bipush (0), .iadd, .bipush (12), .iastore, .aload 0, .bipush (58), .bipush (5), .iload 2, .imul, .iadd, .bipush (1), .iadd, .bipush (4), .iastore, .aload 0, .bipush (58), .bipush (5), .iload 2, .imul, .iadd, .bipush (2), .iadd, .bipush (-1), .iastore, .iinc 2 (1), .goto (70)]
def k_133_115 : List Instr := [.return_]
theorem k_133_ok : (okc 133 0 k_133_0 && okc 133 2 k_133_2 && okc 133 19 k_133_19 && okc 133 25 k_133_25 && okc 133 68 k_133_68 && okc 133 70 k_133_70 && okc 133 115 k_133_115) = true := by decide +kernel
-- 134: RavenSupperModel.isLand([II)Z
def k_134_0 : List Instr := [.iload 1, .bipush (0), .aload 0, .bipush (0), .iaload, .bipush (1), .isub, .invokeinterface 125 192, .freturn]
theorem k_134_ok : (okc 134 0 k_134_0) = true := by decide +kernel
-- 135: RavenSupperModel.isPart(I)Z
def k_135_0 : List Instr := [.iload 0, .bipush (0), .bipush (16), .invokeinterface 125 192, .freturn]
theorem k_135_ok : (okc 135 0 k_135_0) = true := by decide +kernel
-- 136: RavenSupperModel.isBird(I)Z
def k_136_0 : List Instr := [.iload 0, .bipush (0), .bipush (1), .invokeinterface 125 192, .freturn]
theorem k_136_ok : (okc 136 0 k_136_0) = true := by decide +kernel
-- 137: RavenSupperModel.areTwo([III)Z
def k_137_0 : List Instr := [.aload 0, .iload 1, .invokeinterface 134 128, .ifCond .eq (25), .aload 0, .iload 2, .invokeinterface 134 128, .ifCond .eq (25), .iload 1, .iload 2, .if_icmp .eq (25), .bipush (1), .goto (26)]
def k_137_25 : List Instr := [.bipush (0), .freturn]
def k_137_26 : List Instr := [.freturn]
theorem k_137_ok : (okc 137 0 k_137_0 && okc 137 25 k_137_25 && okc 137 26 k_137_26) = true := by decide +kernel
-- 138: RavenSupperModel.mayBird(III)Z
def k_138_0 : List Instr := [.iload 0, .invokeinterface 136 64, .ifCond .eq (31), .iload 1, .bipush (0), .bipush (40), .invokeinterface 125 192, .ifCond .eq (31), .iload 2, .bipush (1), .bipush (9), .invokeinterface 125 192, .ifCond .eq (31), .bipush (1), .goto (32)]
def k_138_31 : List Instr := [.bipush (0), .freturn]
def k_138_32 : List Instr := [.freturn]
theorem k_138_ok : (okc 138 0 k_138_0 && okc 138 31 k_138_31 && okc 138 32 k_138_32) = true := by decide +kernel
-- 139: RavenSupperModel.setBelief([III)V
def k_139_0 : List Instr := [.aload 0, .bipush (4), .bipush (3), .iload 1, .imul, .iadd, .bipush (0), .iadd, .iload 2, .iastore, .aload 0, .bipush (3), .bipush (0), .iastore, .return_]
theorem k_139_ok : (okc 139 0 k_139_0) = true := by decide +kernel
-- 140: RavenSupperModel.setChange([IIII)V
def k_140_0 : List Instr := [.aload 0, .bipush (4), .bipush (3), .iload 1, .imul, .iadd, .bipush (1), .iadd, .iload 2, .iastore, .aload 0, .bipush (4), .bipush (3), .iload 1, .imul, .iadd, .bipush (2), .iadd, .iload 3, .iastore, .aload 0, .bipush (3), .bipush (0), .iastore, .return_]
theorem k_140_ok : (okc 140 0 k_140_0) = true := by decide +kernel
-- 141: RavenSupperModel.silent([I)V
def k_141_0 : List Instr := [.bipush (0), .istore 1, .iload 1, .bipush (2), .if_icmp .ge (46), .aload 0, .bipush (58), .bipush (5), .iload 1, .imul, .iadd, .bipush (2), .iadd, .bipush (-1), .iastore, .aload 0, .bipush (58), .bipush (5), .iload 1, .imul, .iadd, .bipush (3), .iadd, .bipush (0), .iastore, .aload 0, .bipush (58), .bipush (5), .iload 1, .imul, .iadd, .bipush (4), .iadd, .bipush (0), .iastore, .iinc 1 (1), .goto (2)]
def k_141_2 : List Instr := [.iload 1, .bipush (2), .if_icmp .ge (46), .aload 0, .bipush (58), .bipush (5), .iload 1, .imul, .iadd, .bipush (2), .iadd, .bipush (-1), .iastore, .aload 0, .bipush (58), .bipush (5), .iload 1, .imul, .iadd, .bipush (3), .iadd, .bipush (0), .iastore, .aload 0, .bipush (58), .bipush (5), .iload 1, .imul, .iadd, .bipush (4), .iadd, .bipush (0), .iastore, .iinc 1 (1), .goto (2)]
def k_141_46 : List Instr := [.aload 0, .bipush (3), .bipush (0), .iastore, .return_]
theorem k_141_ok : (okc 141 0 k_141_0 && okc 141 2 k_141_2 && okc 141 46 k_141_46) = true := by decide +kernel
-- 142: RavenSupperModel.setWay([IIII)V
def k_142_0 : List Instr := [.aload 0, .bipush (22), .bipush (6), .iload 1, .imul, .iadd, .iload 2, .iadd, .iload 3, .iastore, .aload 0, .bipush (22), .bipush (6), .iload 2, .imul, .iadd, .iload 1, .iadd, .iload 3, .iastore, .aload 0, .invokeinterface 141 64, .return_]
theorem k_142_ok : (okc 142 0 k_142_0) = true := by decide +kernel
-- 143: RavenSupperModel.setBird([IIII)V
def k_143_0 : List Instr := [.aload 0, .bipush (58), .bipush (5), .iload 1, .imul, .iadd, .bipush (0), .iadd, .iload 2, .iastore, .aload 0, .bipush (58), .bipush (5), .iload 1, .imul, .iadd, .bipush (1), .iadd, .iload 3, .iastore, .aload 0, .invokeinterface 141 64, .return_]
theorem k_143_ok : (okc 143 0 k_143_0) = true := by decide +kernel
-- 144: RavenSupperModel.world(I)I
def k_144_0 : List Instr := [.iload 1, .bipush (1), .bipush (6), .invokeinterface 125 192, .ifCond .ne (15), .aload 0, .invokeinterface 128 87, .ireturn]
def k_144_15 : List Instr := [.aload 0, .getstatic 700, .bipush (0), .iaload, .istore 2, .aload 0, .getstatic 700, .iload 1, .invokeinterface 133 128, .iload 2, .ireturn]
theorem k_144_ok : (okc 144 0 k_144_0 && okc 144 15 k_144_15) = true := by decide +kernel
-- 145: RavenSupperModel.belief(II)I
def k_145_0 : List Instr := [.aload 0, .getstatic 700, .iload 1, .invokeinterface 134 128, .ifCond .eq (18), .iload 2, .invokeinterface 135 64, .ifCond .ne (23), .aload 0, .invokeinterface 128 87, .ireturn]
def k_145_18 : List Instr := [.aload 0, .invokeinterface 128 87, .ireturn]
def k_145_23 : List Instr := [.aload 0, .getstatic 700, .bipush (4), .bipush (3), .iload 1, .imul, .iadd, .bipush (0), .iadd, .iaload, .istore 3, .aload 0, .getstatic 700, .iload 1, .iload 2, .invokeinterface 139 192, .iload 3, .ireturn]
theorem k_145_ok : (okc 145 0 k_145_0 && okc 145 18 k_145_18 && okc 145 23 k_145_23) = true := by decide +kernel
-- 146: RavenSupperModel.change(III)I
def k_146_0 : List Instr := [.aload 0, .getstatic 700, .iload 1, .invokeinterface 134 128, .ifCond .eq (25), .iload 2, .invokeinterface 135 64, .ifCond .eq (25), .iload 3, .invokeinterface 135 64, .ifCond .ne (30), .aload 0, .invokeinterface 128 87, .ireturn]
def k_146_25 : List Instr := [.aload 0, .invokeinterface 128 87, .ireturn]
def k_146_30 : List Instr := [.bipush (100), .aload 0, .getstatic 700, .bipush (4), .bipush (3), .iload 1, .imul, .iadd, .bipush (1), .iadd, .iaload, .imul, .aload 0, .getstatic 700, .bipush (4), .bipush (3), .iload 1, .imul, .iadd, .bipush (2), .iadd, .iaload, .iadd, .istore 4, .aload 0, .getstatic 700, .iload 1, .iload 2, .iload 3, .invokeinterface 140 256, .iload 4, .ireturn]
theorem k_146_ok : (okc 146 0 k_146_0 && okc 146 25 k_146_25 && okc 146 30 k_146_30) = true := by decide +kernel
-- 147: RavenSupperModel.way(III)I
def k_147_0 : List Instr := [.aload 0, .getstatic 700, .iload 1, .iload 2, .invokeinterface 137 192, .ifCond .eq (22), .iload 3, .bipush (0), .bipush (9), .invokeinterface 125 192, .ifCond .ne (27), .aload 0, .invokeinterface 128 87, .ireturn]
def k_147_22 : List Instr := [.aload 0, .invokeinterface 128 87, .ireturn]
def k_147_27 : List Instr := [.aload 0, .getstatic 700, .bipush (22), .bipush (6), .iload 1, .imul, .iadd, .iload 2, .iadd, .iaload, .istore 4, .aload 0, .getstatic 700, .iload 1, .iload 2, .iload 3, .invokeinterface 142 256, .iload 4, .ireturn]
theorem k_147_ok : (okc 147 0 k_147_0 && okc 147 22 k_147_22 && okc 147 27 k_147_27) = true := by decide +kernel
-- 148: RavenSupperModel.bird(III)I
def k_148_0 : List Instr := [.iload 1, .iload 2, .iload 3, .invokeinterface 138 192, .ifCond .ne (14), .aload 0, .invokeinterface 128 87, .ireturn]
def k_148_14 : List Instr := [.aload 0, .getstatic 700, .bipush (58), .bipush (5), .iload 1, .imul, .iadd, .bipush (0), .iadd, .iaload, .istore 4, .aload 0, .getstatic 700, .iload 1, .iload 2, .iload 3, .invokeinterface 143 256, .iload 4, .ireturn]
theorem k_148_ok : (okc 148 0 k_148_0 && okc 148 14 k_148_14) = true := by decide +kernel
-- 149: RavenSupperModel.type(I)I
def k_149_0 : List Instr := [.iload 1, .bipush (0), .bipush (127), .invokeinterface 125 192, .ifCond .ne (15), .aload 0, .invokeinterface 128 87, .ireturn]
def k_149_15 : List Instr := [.aload 0, .getfield 706, .bipush (150), .if_icmp .ne (30), .aload 0, .invokeinterface 131 87, .ireturn]
def k_149_30 : List Instr := [.aload 0, .getstatic 705, .aload 0, .getfield 706, .iload 1, .iastore, .aload 0, .dup, .getfield 706, .bipush (1), .iadd, .putfield 706, .aload 0, .getfield 706, .ireturn]
theorem k_149_ok : (okc 149 0 k_149_0 && okc 149 15 k_149_15 && okc 149 30 k_149_30) = true := by decide +kernel
-- 150: RavenSupperModel.clear()I
def k_150_0 : List Instr := [.aload 0, .getfield 706, .istore 1, .aload 0, .bipush (0), .putfield 706, .iload 1, .ireturn]
theorem k_150_ok : (okc 150 0 k_150_0) = true := by decide +kernel
-- 151: RavenSupperModel.byteAt(I)I
def k_151_0 : List Instr := [.iload 1, .aload 0, .getfield 706, .if_icmp .ge (17), .aload 0, .getstatic 705, .iload 1, .iaload, .goto (18)]
def k_151_17 : List Instr := [.bipush (-1), .ireturn]
def k_151_18 : List Instr := [.ireturn]
theorem k_151_ok : (okc 151 0 k_151_0 && okc 151 17 k_151_17 && okc 151 18 k_151_18) = true := by decide +kernel
-- 152: RavenSupperModel.sortOf(I)I
def k_152_0 : List Instr := [.iload 0, .ifCond .ge (8), .bipush (0), .goto (49)]
def k_152_8 : List Instr := [.iload 0, .bipush (97), .bipush (122), .invokeinterface 125 192, .ifCond .eq (23), .bipush (1), .goto (49)]
def k_152_23 : List Instr := [.iload 0, .bipush (48), .bipush (57), .invokeinterface 125 192, .ifCond .eq (38), .bipush (2), .goto (49)]
def k_152_38 : List Instr := [.iload 0, .bipush (59), .if_icmp .ne (48), .bipush (3), .goto (49)]
def k_152_48 : List Instr := [.bipush (4), .ireturn]
def k_152_49 : List Instr := [.ireturn]
theorem k_152_ok : (okc 152 0 k_152_0 && okc 152 8 k_152_8 && okc 152 23 k_152_23 && okc 152 38 k_152_38 && okc 152 48 k_152_48 && okc 152 49 k_152_49) = true := by decide +kernel
-- 153: RavenSupperModel.token()V
def k_153_0 : List Instr := [.aload 0, .aload 0, .getfield 709, .invokeinterface 151 151, .bipush (32), .if_icmp .ne (26), .aload 0, .dup, .getfield 709, .bipush (1), .iadd, .putfield 709, .goto (0)]
def k_153_26 : List Instr := [.aload 0, .aload 0, .getfield 709, .putfield 710, .aload 0, .bipush (0), .putfield 711, .aload 0, .aload 0, .aload 0, .getfield 709, .invokeinterface 151 151, .invokeinterface 152 64, .putfield 712, .aload 0, .getfield 712, .ifCond .eq (125), .aload 0, .getfield 711, .ifCond .eq (102), .aload 0, .getfield 712, .bipush (1), .if_icmp .eq (84), .aload 0, .getfield 712, .bipush (2), .if_icmp .ne (125), .aload 0, .aload 0, .getfield 709, .invokeinterface 151 151, .invokeinterface 152 64, .aload 0, .getfield 712, .if_icmp .ne (125), .aload 0, .dup, .getfield 709, .bipush (1), .iadd, .putfield 709, .aload 0, .dup, .getfield 711, .bipush (1), .iadd, .putfield 711, .goto (54)]
def k_153_54 : List Instr := [.aload 0, .getfield 712, .ifCond .eq (125), .aload 0, .getfield 711, .ifCond .eq (102), .aload 0, .getfield 712, .bipush (1), .if_icmp .eq (84), .aload 0, .getfield 712, .bipush (2), .if_icmp .ne (125), .aload 0, .aload 0, .getfield 709, .invokeinterface 151 151, .invokeinterface 152 64, .aload 0, .getfield 712, .if_icmp .ne (125), .aload 0, .dup, .getfield 709, .bipush (1), .iadd, .putfield 709, .aload 0, .dup, .getfield 711, .bipush (1), .iadd, .putfield 711, .goto (54)]
def k_153_84 : List Instr := [.aload 0, .aload 0, .getfield 709, .invokeinterface 151 151, .invokeinterface 152 64, .aload 0, .getfield 712, .if_icmp .ne (125), .aload 0, .dup, .getfield 709, .bipush (1), .iadd, .putfield 709, .aload 0, .dup, .getfield 711, .bipush (1), .iadd, .putfield 711, .goto (54)]
def k_153_102 : List Instr := [.aload 0, .dup, .getfield 709, .bipush (1), .iadd, .putfield 709, .aload 0, .dup, .getfield 711, .bipush (1), .iadd, .putfield 711, .goto (54)]
def k_153_125 : List Instr := [.return_]
theorem k_153_ok : (okc 153 0 k_153_0 && okc 153 26 k_153_26 && okc 153 54 k_153_54 && okc 153 84 k_153_84 && okc 153 102 k_153_102 && okc 153 125 k_153_125) = true := by decide +kernel
-- 154: RavenSupperModel.name(IIIIII)J
def k_154_0 : List Instr := [.sipush (27), .sipush (27), .iload 0, .i2l, .lmul, .iload 1, .i2l, .ladd, .lmul, .iload 2, .i2l, .ladd, .lstore 6, .iload 3, .ifCond .ne (27), .lload 6, .goto (36)]
def k_154_27 : List Instr := [.sipush (27), .lload 6, .lmul, .iload 3, .i2l, .ladd, .lstore 6, .iload 4, .ifCond .ne (48), .lload 6, .goto (58)]
def k_154_36 : List Instr := [.lstore 6, .iload 4, .ifCond .ne (48), .lload 6, .goto (58)]
def k_154_48 : List Instr := [.sipush (27), .lload 6, .lmul, .iload 4, .i2l, .ladd, .lstore 6, .iload 5, .ifCond .ne (70), .lload 6, .goto (80)]
def k_154_58 : List Instr := [.lstore 6, .iload 5, .ifCond .ne (70), .lload 6, .goto (80)]
def k_154_70 : List Instr := [.sipush (27), .lload 6, .lmul, .iload 5, .i2l, .ladd, .lreturn]
def k_154_80 : List Instr := [.lreturn]
theorem k_154_ok : (okc 154 0 k_154_0 && okc 154 27 k_154_27 && okc 154 36 k_154_36 && okc 154 48 k_154_48 && okc 154 58 k_154_58 && okc 154 70 k_154_70 && okc 154 80 k_154_80) = true := by decide +kernel
-- 155: RavenSupperModel.item()I
def k_155_0 : List Instr := [.sipush (0), .lstore 1, .bipush (0), .istore 3, .iload 3, .aload 0, .getfield 711, .if_icmp .ge (57), .aload 0, .getfield 711, .bipush (7), .if_icmp .ge (57), .aload 0, .getfield 712, .bipush (1), .if_icmp .ne (57), .sipush (27), .lload 1, .lmul, .aload 0, .aload 0, .getfield 710, .iload 3, .iadd, .invokeinterface 151 151, .i2l, .ladd, .sipush (96), .lsub, .lstore 1, .iinc 3 (1), .goto (4)]
def k_155_4 : List Instr := [.iload 3, .aload 0, .getfield 711, .if_icmp .ge (57), .aload 0, .getfield 711, .bipush (7), .if_icmp .ge (57), .aload 0, .getfield 712, .bipush (1), .if_icmp .ne (57), .sipush (27), .lload 1, .lmul, .aload 0, .aload 0, .getfield 710, .iload 3, .iadd, .invokeinterface 151 151, .i2l, .ladd, .sipush (96), .lsub, .lstore 1, .iinc 3 (1), .goto (4)]
def k_155_57 : List Instr := [.lload 1, .bipush (23), .bipush (15), .bipush (18), .bipush (12), .bipush (4), .bipush (0), .invokeinterface 154 384, .lcmp, .ifCond .ne (79), .bipush (0), .goto (122)]
def k_155_79 : List Instr := [.lload 1, .bipush (2), .bipush (5), .bipush (12), .bipush (9), .bipush (5), .bipush (6), .invokeinterface 154 384, .lcmp, .ifCond .ne (100), .bipush (1), .goto (122)]
def k_155_100 : List Instr := [.lload 1, .bipush (3), .bipush (8), .bipush (1), .bipush (14), .bipush (7), .bipush (5), .invokeinterface 154 384, .lcmp, .ifCond .ne (121), .bipush (2), .goto (122)]
def k_155_121 : List Instr := [.bipush (-1), .istore 3, .lload 1, .bipush (23), .bipush (1), .bipush (25), .bipush (0), .bipush (0), .bipush (0), .invokeinterface 154 384, .lcmp, .ifCond .ne (143), .bipush (3), .goto (164)]
def k_155_122 : List Instr := [.istore 3, .lload 1, .bipush (23), .bipush (1), .bipush (25), .bipush (0), .bipush (0), .bipush (0), .invokeinterface 154 384, .lcmp, .ifCond .ne (143), .bipush (3), .goto (164)]
def k_155_143 : List Instr := [.lload 1, .bipush (2), .bipush (9), .bipush (18), .bipush (4), .bipush (0), .bipush (0), .invokeinterface 154 384, .lcmp, .ifCond .ne (163), .bipush (4), .goto (164)]
def k_155_163 : List Instr := [.iload 3, .ireturn]
def k_155_164 : List Instr := [.ireturn]
theorem k_155_ok : (okc 155 0 k_155_0 && okc 155 4 k_155_4 && okc 155 57 k_155_57 && okc 155 79 k_155_79 && okc 155 100 k_155_100 && okc 155 121 k_155_121 && okc 155 122 k_155_122 && okc 155 143 k_155_143 && okc 155 163 k_155_163 && okc 155 164 k_155_164) = true := by decide +kernel
-- 156: RavenSupperModel.numbers(I)I
def k_156_0 : List Instr := [.iload 0, .ifCond .ne (8), .bipush (1), .goto (18)]
def k_156_8 : List Instr := [.iload 0, .bipush (1), .if_icmp .ne (17), .bipush (2), .goto (18)]
def k_156_17 : List Instr := [.bipush (3), .ireturn]
def k_156_18 : List Instr := [.ireturn]
theorem k_156_ok : (okc 156 0 k_156_0 && okc 156 8 k_156_8 && okc 156 17 k_156_17 && okc 156 18 k_156_18) = true := by decide +kernel
-- 157: RavenSupperModel.readsNumbers(I)Z
def k_157_0 : List Instr := [.bipush (0), .istore 2, .iload 2, .iload 1, .if_icmp .ge (83), .aload 0, .invokeinterface 153 87, .aload 0, .getfield 712, .bipush (2), .if_icmp .ne (27), .aload 0, .getfield 711, .bipush (2), .if_icmp .le (29), .bipush (0), .freturn]
def k_157_2 : List Instr := [.iload 2, .iload 1, .if_icmp .ge (83), .aload 0, .invokeinterface 153 87, .aload 0, .getfield 712, .bipush (2), .if_icmp .ne (27), .aload 0, .getfield 711, .bipush (2), .if_icmp .le (29), .bipush (0), .freturn]
def k_157_27 : List Instr := [.bipush (0), .freturn]
def k_157_29 : List Instr := [.aload 0, .aload 0, .getfield 710, .invokeinterface 151 151, .bipush (48), .isub, .istore 3, .aload 0, .getstatic 713, .iload 2, .aload 0, .getfield 711, .bipush (1), .if_icmp .ne (58), .iload 3, .goto (76)]
def k_157_58 : List Instr := [.bipush (10), .iload 3, .imul, .aload 0, .aload 0, .getfield 710, .bipush (1), .iadd, .invokeinterface 151 151, .iadd, .bipush (48), .isub, .iastore, .iinc 2 (1), .goto (2)]
def k_157_76 : List Instr := [.iastore, .iinc 2 (1), .goto (2)]
def k_157_83 : List Instr := [.aload 0, .invokeinterface 153 87, .aload 0, .getfield 712, .bipush (3), .if_icmp .ne (99), .bipush (1), .goto (100)]
def k_157_99 : List Instr := [.bipush (0), .freturn]
def k_157_100 : List Instr := [.freturn]
theorem k_157_ok : (okc 157 0 k_157_0 && okc 157 2 k_157_2 && okc 157 27 k_157_27 && okc 157 29 k_157_29 && okc 157 58 k_157_58 && okc 157 76 k_157_76 && okc 157 83 k_157_83 && okc 157 99 k_157_99 && okc 157 100 k_157_100) = true := by decide +kernel
-- 158: RavenSupperModel.does(I)Z
def k_158_0 : List Instr := [.aload 0, .getstatic 713, .bipush (0), .iaload, .istore 2, .aload 0, .getstatic 713, .bipush (1), .iaload, .istore 3, .aload 0, .getstatic 713, .bipush (2), .iaload, .istore 4, .iload 1, .tableswitch 161 (0) (3) #[52, 64, 92, 128]]
def k_158_52 : List Instr := [.iload 2, .bipush (1), .bipush (6), .invokeinterface 125 192, .istore 5, .goto (170)]
def k_158_64 : List Instr := [.aload 0, .getstatic 701, .iload 2, .invokeinterface 134 128, .ifCond .eq (86), .iload 3, .invokeinterface 135 64, .ifCond .eq (86), .bipush (1), .goto (87)]
def k_158_86 : List Instr := [.bipush (0), .istore 5, .goto (170)]
def k_158_87 : List Instr := [.istore 5, .goto (170)]
def k_158_92 : List Instr := [.aload 0, .getstatic 701, .iload 2, .invokeinterface 134 128, .ifCond .eq (122), .iload 3, .invokeinterface 135 64, .ifCond .eq (122), .iload 4, .invokeinterface 135 64, .ifCond .eq (122), .bipush (1), .goto (123)]
def k_158_122 : List Instr := [.bipush (0), .istore 5, .goto (170)]
def k_158_123 : List Instr := [.istore 5, .goto (170)]
def k_158_128 : List Instr := [.aload 0, .getstatic 701, .iload 2, .iload 3, .invokeinterface 137 192, .ifCond .eq (155), .iload 4, .bipush (0), .bipush (9), .invokeinterface 125 192, .ifCond .eq (155), .bipush (1), .goto (156)]
def k_158_155 : List Instr := [.bipush (0), .istore 5, .goto (170)]
def k_158_156 : List Instr := [.istore 5, .goto (170)]
def k_158_161 : List Instr := [.iload 2, .iload 3, .iload 4, .invokeinterface 138 192, .istore 5, .iload 5, .ifCond .ne (177), .bipush (0), .freturn]
def k_158_170 : List Instr := [.iload 5, .ifCond .ne (177), .bipush (0), .freturn]
def k_158_177 : List Instr := [.iload 1, .ifCond .ne (192), .aload 0, .getstatic 701, .iload 2, .invokeinterface 133 128, .goto (258)]
def k_158_192 : List Instr := [.iload 1, .bipush (1), .if_icmp .ne (209), .aload 0, .getstatic 701, .iload 2, .iload 3, .invokeinterface 139 192, .goto (258)]
def k_158_209 : List Instr := [.iload 1, .bipush (2), .if_icmp .ne (228), .aload 0, .getstatic 701, .iload 2, .iload 3, .iload 4, .invokeinterface 140 256, .goto (258)]
def k_158_228 : List Instr := [.iload 1, .bipush (3), .if_icmp .ne (247), .aload 0, .getstatic 701, .iload 2, .iload 3, .iload 4, .invokeinterface 142 256, .goto (258)]
def k_158_247 : List Instr := [.aload 0, .getstatic 701, .iload 2, .iload 3, .iload 4, .invokeinterface 143 256, .bipush (1), .freturn]
def k_158_258 : List Instr := [.bipush (1), .freturn]
theorem k_158_ok : (okc 158 0 k_158_0 && okc 158 52 k_158_52 && okc 158 64 k_158_64 && okc 158 86 k_158_86 && okc 158 87 k_158_87 && okc 158 92 k_158_92 && okc 158 122 k_158_122 && okc 158 123 k_158_123 && okc 158 128 k_158_128 && okc 158 155 k_158_155 && okc 158 156 k_158_156 && okc 158 161 k_158_161 && okc 158 170 k_158_170 && okc 158 177 k_158_177 && okc 158 192 k_158_192 && okc 158 209 k_158_209 && okc 158 228 k_158_228 && okc 158 247 k_158_247 && okc 158 258 k_158_258) = true := by decide +kernel
-- 159: RavenSupperModel.reads()I
def k_159_0 : List Instr := [.aload 0, .getstatic 701, .bipush (1), .invokeinterface 133 128, .aload 0, .bipush (-1), .putfield 714, .aload 0, .bipush (0), .putfield 709, .bipush (0), .istore 1, .aload 0, .invokeinterface 153 87, .aload 0, .getfield 712, .ifCond .ne (35), .iload 1, .ifCond .ne (110), .aload 0, .invokeinterface 155 87, .istore 2, .iload 2, .bipush (-1), .if_icmp .eq (77), .iload 2, .ifCond .ne (53), .bipush (1), .goto (54)]
def k_159_24 : List Instr := [.aload 0, .getfield 712, .ifCond .ne (35), .iload 1, .ifCond .ne (110), .aload 0, .invokeinterface 155 87, .istore 2, .iload 2, .bipush (-1), .if_icmp .eq (77), .iload 2, .ifCond .ne (53), .bipush (1), .goto (54)]
def k_159_35 : List Instr := [.aload 0, .invokeinterface 155 87, .istore 2, .iload 2, .bipush (-1), .if_icmp .eq (77), .iload 2, .ifCond .ne (53), .bipush (1), .goto (54)]
def k_159_53 : List Instr := [.bipush (0), .iload 1, .ifCond .ne (62), .bipush (1), .goto (63)]
def k_159_54 : List Instr := [.iload 1, .ifCond .ne (62), .bipush (1), .goto (63)]
def k_159_62 : List Instr := [.bipush (0), .if_icmp .ne (77), .aload 0, .iload 2, .invokeinterface 156 64, .invokeinterface 157 151, .ifCond .ne (79), .bipush (-1), .ireturn]
def k_159_63 : List Instr := [.if_icmp .ne (77), .aload 0, .iload 2, .invokeinterface 156 64, .invokeinterface 157 151, .ifCond .ne (79), .bipush (-1), .ireturn]
def k_159_77 : List Instr := [.bipush (-1), .ireturn]
def k_159_79 : List Instr := [.aload 0, .getfield 714, .bipush (-1), .if_icmp .ne (100), .aload 0, .iload 2, .invokeinterface 158 151, .ifCond .ne (100), .aload 0, .iload 1, .putfield 714, .iinc 1 (1), .aload 0, .invokeinterface 153 87, .goto (24)]
def k_159_100 : List Instr := [.iinc 1 (1), .aload 0, .invokeinterface 153 87, .goto (24)]
def k_159_110 : List Instr := [.iload 1, .ireturn]
theorem k_159_ok : (okc 159 0 k_159_0 && okc 159 24 k_159_24 && okc 159 35 k_159_35 && okc 159 53 k_159_53 && okc 159 54 k_159_54 && okc 159 62 k_159_62 && okc 159 63 k_159_63 && okc 159 77 k_159_77 && okc 159 79 k_159_79 && okc 159 100 k_159_100 && okc 159 110 k_159_110) = true := by decide +kernel
-- 160: RavenSupperModel.read()I
def k_160_0 : List Instr := [.aload 0, .invokeinterface 159 87, .istore 1, .iload 1, .bipush (-1), .if_icmp .ne (18), .bipush (-10), .aload 0, .getfield 710, .isub, .ireturn]
def k_160_18 : List Instr := [.aload 0, .getfield 714, .bipush (-1), .if_icmp .eq (35), .bipush (-1000), .aload 0, .getfield 714, .isub, .ireturn]
def k_160_35 : List Instr := [.aload 0, .getstatic 701, .bipush (0), .aload 0, .getstatic 700, .bipush (0), .invokeinterface 132 256, .iload 1, .ireturn]
theorem k_160_ok : (okc 160 0 k_160_0 && okc 160 18 k_160_18 && okc 160 35 k_160_35) = true := by decide +kernel
-- 161: RavenSupperModel.findFar()V
def k_161_0 : List Instr := [.bipush (0), .istore 1, .iload 1, .bipush (6), .if_icmp .ge (29), .aload 0, .getstatic 708, .iload 1, .iload 1, .ifCond .ne (21), .bipush (0), .goto (22)]
def k_161_2 : List Instr := [.iload 1, .bipush (6), .if_icmp .ge (29), .aload 0, .getstatic 708, .iload 1, .iload 1, .ifCond .ne (21), .bipush (0), .goto (22)]
def k_161_21 : List Instr := [.bipush (-1), .iastore, .iinc 1 (1), .goto (2)]
def k_161_22 : List Instr := [.iastore, .iinc 1 (1), .goto (2)]
def k_161_29 : List Instr := [.bipush (0), .istore 1, .iload 1, .bipush (6), .if_icmp .ge (174), .bipush (0), .istore 2, .iload 2, .aload 0, .getstatic 700, .bipush (0), .iaload, .if_icmp .ge (168), .bipush (0), .istore 3, .iload 3, .aload 0, .getstatic 700, .bipush (0), .iaload, .if_icmp .ge (162), .aload 0, .getstatic 700, .bipush (22), .bipush (6), .iload 2, .imul, .iadd, .iload 3, .iadd, .iaload, .istore 4, .iload 4, .ifCond .le (124), .aload 0, .getstatic 708, .iload 2, .iaload, .bipush (-1), .if_icmp .eq (124), .aload 0, .getstatic 708, .iload 3, .iaload, .bipush (-1), .if_icmp .eq (120), .aload 0, .getstatic 708, .iload 2, .iaload, .iload 4, .iadd, .aload 0, .getstatic 708, .iload 3, .iaload, .if_icmp .ge (124), .bipush (1), .goto (125)]
def k_161_31 : List Instr := [.iload 1, .bipush (6), .if_icmp .ge (174), .bipush (0), .istore 2, .iload 2, .aload 0, .getstatic 700, .bipush (0), .iaload, .if_icmp .ge (168), .bipush (0), .istore 3, .iload 3, .aload 0, .getstatic 700, .bipush (0), .iaload, .if_icmp .ge (162), .aload 0, .getstatic 700, .bipush (22), .bipush (6), .iload 2, .imul, .iadd, .iload 3, .iadd, .iaload, .istore 4, .iload 4, .ifCond .le (124), .aload 0, .getstatic 708, .iload 2, .iaload, .bipush (-1), .if_icmp .eq (124), .aload 0, .getstatic 708, .iload 3, .iaload, .bipush (-1), .if_icmp .eq (120), .aload 0, .getstatic 708, .iload 2, .iaload, .iload 4, .iadd, .aload 0, .getstatic 708, .iload 3, .iaload, .if_icmp .ge (124), .bipush (1), .goto (125)]
def k_161_39 : List Instr := [.iload 2, .aload 0, .getstatic 700, .bipush (0), .iaload, .if_icmp .ge (168), .bipush (0), .istore 3, .iload 3, .aload 0, .getstatic 700, .bipush (0), .iaload, .if_icmp .ge (162), .aload 0, .getstatic 700, .bipush (22), .bipush (6), .iload 2, .imul, .iadd, .iload 3, .iadd, .iaload, .istore 4, .iload 4, .ifCond .le (124), .aload 0, .getstatic 708, .iload 2, .iaload, .bipush (-1), .if_icmp .eq (124), .aload 0, .getstatic 708, .iload 3, .iaload, .bipush (-1), .if_icmp .eq (120), .aload 0, .getstatic 708, .iload 2, .iaload, .iload 4, .iadd, .aload 0, .getstatic 708, .iload 3, .iaload, .if_icmp .ge (124), .bipush (1), .goto (125)]
def k_161_51 : List Instr := [.iload 3, .aload 0, .getstatic 700, .bipush (0), .iaload, .if_icmp .ge (162), .aload 0, .getstatic 700, .bipush (22), .bipush (6), .iload 2, .imul, .iadd, .iload 3, .iadd, .iaload, .istore 4, .iload 4, .ifCond .le (124), .aload 0, .getstatic 708, .iload 2, .iaload, .bipush (-1), .if_icmp .eq (124), .aload 0, .getstatic 708, .iload 3, .iaload, .bipush (-1), .if_icmp .eq (120), .aload 0, .getstatic 708, .iload 2, .iaload, .iload 4, .iadd, .aload 0, .getstatic 708, .iload 3, .iaload, .if_icmp .ge (124), .bipush (1), .goto (125)]
def k_161_120 : List Instr := [.bipush (1), .goto (125)]
def k_161_124 : List Instr := [.bipush (0), .istore 5, .aload 0, .getstatic 708, .iload 3, .iload 5, .ifCond .eq (149), .aload 0, .getstatic 708, .iload 2, .iaload, .iload 4, .iadd, .goto (155)]
def k_161_125 : List Instr := [.istore 5, .aload 0, .getstatic 708, .iload 3, .iload 5, .ifCond .eq (149), .aload 0, .getstatic 708, .iload 2, .iaload, .iload 4, .iadd, .goto (155)]
def k_161_149 : List Instr := [.aload 0, .getstatic 708, .iload 3, .iaload, .iastore, .iinc 3 (1), .goto (51)]
def k_161_155 : List Instr := [.iastore, .iinc 3 (1), .goto (51)]
def k_161_162 : List Instr := [.iinc 2 (1), .goto (39)]
def k_161_168 : List Instr := [.iinc 1 (1), .goto (31)]
def k_161_174 : List Instr := [.return_]
theorem k_161_ok : (okc 161 0 k_161_0 && okc 161 2 k_161_2 && okc 161 21 k_161_21 && okc 161 22 k_161_22 && okc 161 29 k_161_29 && okc 161 31 k_161_31 && okc 161 39 k_161_39 && okc 161 51 k_161_51 && okc 161 120 k_161_120 && okc 161 124 k_161_124 && okc 161 125 k_161_125 && okc 161 149 k_161_149 && okc 161 155 k_161_155 && okc 161 162 k_161_162 && okc 161 168 k_161_168 && okc 161 174 k_161_174) = true := by decide +kernel
-- 162: RavenSupperModel.isReached(II)Z
def k_162_0 : List Instr := [.aload 0, .getstatic 708, .iload 2, .iaload, .bipush (-1), .if_icmp .eq (38), .bipush (2), .aload 0, .getstatic 708, .iload 2, .iaload, .imul, .aload 0, .getstatic 700, .bipush (58), .bipush (5), .iload 1, .imul, .iadd, .bipush (0), .iadd, .iaload, .if_icmp .gt (38), .bipush (1), .goto (39)]
def k_162_38 : List Instr := [.bipush (0), .freturn]
def k_162_39 : List Instr := [.freturn]
theorem k_162_ok : (okc 162 0 k_162_0 && okc 162 38 k_162_38 && okc 162 39 k_162_39) = true := by decide +kernel
-- 163: RavenSupperModel.reached(I)I
def k_163_0 : List Instr := [.aload 0, .invokeinterface 161 87, .bipush (0), .istore 2, .bipush (0), .istore 3, .iload 3, .aload 0, .getstatic 700, .bipush (0), .iaload, .if_icmp .ge (43), .iload 2, .aload 0, .iload 1, .iload 3, .invokeinterface 162 215, .ifCond .eq (34), .bipush (1), .iload 3, .ishl, .goto (35)]
def k_163_8 : List Instr := [.iload 3, .aload 0, .getstatic 700, .bipush (0), .iaload, .if_icmp .ge (43), .iload 2, .aload 0, .iload 1, .iload 3, .invokeinterface 162 215, .ifCond .eq (34), .bipush (1), .iload 3, .ishl, .goto (35)]
def k_163_34 : List Instr := [.bipush (0), .ior, .istore 2, .iinc 3 (1), .goto (8)]
def k_163_35 : List Instr := [.ior, .istore 2, .iinc 3 (1), .goto (8)]
def k_163_43 : List Instr := [.iload 2, .ireturn]
theorem k_163_ok : (okc 163 0 k_163_0 && okc 163 8 k_163_8 && okc 163 34 k_163_34 && okc 163 35 k_163_35 && okc 163 43 k_163_43) = true := by decide +kernel
-- 164: RavenSupperModel.plain(II)I
def k_164_0 : List Instr := [.bipush (8), .bipush (16), .aload 0, .getstatic 708, .iload 2, .iaload, .aload 0, .getstatic 700, .bipush (58), .bipush (5), .iload 1, .imul, .iadd, .bipush (1), .iadd, .iaload, .idiv, .isub, .invokeinterface 127 128, .ireturn]
theorem k_164_ok : (okc 164 0 k_164_0) = true := by decide +kernel
-- 165: RavenSupperModel.sureOf(III)I
def k_165_0 : List Instr := [.aload 0, .iload 1, .iload 2, .invokeinterface 164 215, .istore 4, .bipush (8), .iload 4, .bipush (2), .isub, .invokeinterface 127 128, .istore 5, .iload 3, .tableswitch 82 (2) (5) #[52, 55, 61, 72]]
def k_165_52 : List Instr := [.iload 5, .ireturn]
def k_165_55 : List Instr := [.bipush (16), .iload 4, .isub, .ireturn]
def k_165_61 : List Instr := [.iload 5, .bipush (8), .isub, .bipush (2), .idiv, .bipush (8), .iadd, .ireturn]
def k_165_72 : List Instr := [.bipush (8), .iload 4, .bipush (3), .isub, .invokeinterface 127 128, .ireturn]
def k_165_82 : List Instr := [.iload 4, .ireturn]
theorem k_165_ok : (okc 165 0 k_165_0 && okc 165 52 k_165_52 && okc 165 55 k_165_55 && okc 165 61 k_165_61 && okc 165 72 k_165_72 && okc 165 82 k_165_82) = true := by decide +kernel
-- 166: RavenSupperModel.lateOf(I)I
def k_166_0 : List Instr := [.iload 0, .bipush (1), .if_icmp .ne (9), .bipush (1), .goto (19)]
def k_166_9 : List Instr := [.iload 0, .bipush (5), .if_icmp .ne (18), .bipush (3), .goto (19)]
def k_166_18 : List Instr := [.bipush (0), .ireturn]
def k_166_19 : List Instr := [.ireturn]
theorem k_166_ok : (okc 166 0 k_166_0 && okc 166 9 k_166_9 && okc 166 18 k_166_18 && okc 166 19 k_166_19) = true := by decide +kernel
-- 167: RavenSupperModel.heard(II)I
def k_167_0 : List Instr := [.iload 0, .iload 1, .imul, .bipush (16), .iload 0, .isub, .bipush (16), .iload 1, .isub, .imul, .iadd, .istore 2, .iload 2, .ifCond .ne (22), .iload 0, .goto (30)]
def k_167_22 : List Instr := [.bipush (16), .iload 0, .imul, .iload 1, .imul, .iload 2, .idiv, .ireturn]
def k_167_30 : List Instr := [.ireturn]
theorem k_167_ok : (okc 167 0 k_167_0 && okc 167 22 k_167_22 && okc 167 30 k_167_30) = true := by decide +kernel
-- 168: RavenSupperModel.dayOf(II)I
def k_168_0 : List Instr := [.iload 2, .bipush (16), .aload 0, .getstatic 700, .bipush (4), .bipush (3), .iload 1, .imul, .iadd, .bipush (2), .iadd, .iaload, .isub, .imul, .bipush (16), .iload 2, .isub, .aload 0, .getstatic 700, .bipush (4), .bipush (3), .iload 1, .imul, .iadd, .bipush (1), .iadd, .iaload, .imul, .iadd, .bipush (16), .idiv, .ireturn]
theorem k_168_ok : (okc 168 0 k_168_0) = true := by decide +kernel
-- 169: RavenSupperModel.tell(IIIZ)I
def k_169_0 : List Instr := [.iload 1, .invokeinterface 136 64, .ifCond .eq (27), .aload 0, .getstatic 700, .iload 2, .invokeinterface 134 128, .ifCond .eq (27), .iload 3, .bipush (0), .bipush (5), .invokeinterface 125 192, .ifCond .ne (32), .aload 0, .invokeinterface 128 87, .ireturn]
def k_169_27 : List Instr := [.aload 0, .invokeinterface 128 87, .ireturn]
def k_169_32 : List Instr := [.aload 0, .iload 1, .invokeinterface 163 151, .iload 2, .invokeinterface 126 128, .ifCond .ne (49), .aload 0, .invokeinterface 130 87, .ireturn]
def k_169_49 : List Instr := [.aload 0, .getstatic 700, .bipush (58), .bipush (5), .iload 1, .imul, .iadd, .bipush (2), .iadd, .iload 2, .iastore, .aload 0, .getstatic 700, .bipush (58), .bipush (5), .iload 1, .imul, .iadd, .bipush (3), .iadd, .iload 3, .iastore, .aload 0, .getstatic 700, .bipush (58), .bipush (5), .iload 1, .imul, .iadd, .bipush (4), .iadd, .iload 4, .ifCond .eq (98), .bipush (1), .goto (99)]
def k_169_98 : List Instr := [.bipush (0), .iastore, .aload 0, .iload 1, .iload 2, .iload 3, .invokeinterface 165 279, .ireturn]
def k_169_99 : List Instr := [.iastore, .aload 0, .iload 1, .iload 2, .iload 3, .invokeinterface 165 279, .ireturn]
theorem k_169_ok : (okc 169 0 k_169_0 && okc 169 27 k_169_27 && okc 169 32 k_169_32 && okc 169 49 k_169_49 && okc 169 98 k_169_98 && okc 169 99 k_169_99) = true := by decide +kernel
-- 170: RavenSupperModel.notes()V
def k_170_0 : List Instr := [.aload 0, .getstatic 700, .bipush (3), .iaload, .bipush (8), .if_icmp .ne (52), .bipush (92), .istore 1, .iload 1, .bipush (183), .if_icmp .ge (42), .aload 0, .getstatic 700, .iload 1, .aload 0, .getstatic 700, .iload 1, .bipush (13), .iadd, .iaload, .iastore, .iinc 1 (1), .goto (14)]
def k_170_14 : List Instr := [.iload 1, .bipush (183), .if_icmp .ge (42), .aload 0, .getstatic 700, .iload 1, .aload 0, .getstatic 700, .iload 1, .bipush (13), .iadd, .iaload, .iastore, .iinc 1 (1), .goto (14)]
def k_170_42 : List Instr := [.aload 0, .getstatic 700, .bipush (3), .dup2, .iaload, .bipush (1), .isub, .iastore, .bipush (92), .bipush (13), .aload 0, .getstatic 700, .bipush (3), .iaload, .imul, .iadd, .istore 1, .bipush (0), .istore 2, .iload 2, .bipush (6), .if_icmp .ge (99), .aload 0, .getstatic 700, .iload 1, .iload 2, .iadd, .aload 0, .getstatic 700, .bipush (4), .bipush (3), .iload 2, .imul, .iadd, .bipush (0), .iadd, .iaload, .iastore, .iinc 2 (1), .goto (67)]
def k_170_52 : List Instr := [.bipush (92), .bipush (13), .aload 0, .getstatic 700, .bipush (3), .iaload, .imul, .iadd, .istore 1, .bipush (0), .istore 2, .iload 2, .bipush (6), .if_icmp .ge (99), .aload 0, .getstatic 700, .iload 1, .iload 2, .iadd, .aload 0, .getstatic 700, .bipush (4), .bipush (3), .iload 2, .imul, .iadd, .bipush (0), .iadd, .iaload, .iastore, .iinc 2 (1), .goto (67)]
def k_170_67 : List Instr := [.iload 2, .bipush (6), .if_icmp .ge (99), .aload 0, .getstatic 700, .iload 1, .iload 2, .iadd, .aload 0, .getstatic 700, .bipush (4), .bipush (3), .iload 2, .imul, .iadd, .bipush (0), .iadd, .iaload, .iastore, .iinc 2 (1), .goto (67)]
def k_170_99 : List Instr := [.bipush (0), .istore 2, .iload 2, .bipush (2), .if_icmp .ge (155), .bipush (0), .istore 3, .iload 3, .bipush (3), .if_icmp .ge (149), .aload 0, .getstatic 700, .iload 1, .bipush (6), .iadd, .bipush (3), .iload 2, .imul, .iadd, .iload 3, .iadd, .aload 0, .getstatic 700, .bipush (58), .bipush (5), .iload 2, .imul, .iadd, .bipush (2), .iadd, .iload 3, .iadd, .iaload, .iastore, .iinc 3 (1), .goto (108)]
def k_170_101 : List Instr := [.iload 2, .bipush (2), .if_icmp .ge (155), .bipush (0), .istore 3, .iload 3, .bipush (3), .if_icmp .ge (149), .aload 0, .getstatic 700, .iload 1, .bipush (6), .iadd, .bipush (3), .iload 2, .imul, .iadd, .iload 3, .iadd, .aload 0, .getstatic 700, .bipush (58), .bipush (5), .iload 2, .imul, .iadd, .bipush (2), .iadd, .iload 3, .iadd, .iaload, .iastore, .iinc 3 (1), .goto (108)]
def k_170_108 : List Instr := [.iload 3, .bipush (3), .if_icmp .ge (149), .aload 0, .getstatic 700, .iload 1, .bipush (6), .iadd, .bipush (3), .iload 2, .imul, .iadd, .iload 3, .iadd, .aload 0, .getstatic 700, .bipush (58), .bipush (5), .iload 2, .imul, .iadd, .bipush (2), .iadd, .iload 3, .iadd, .iaload, .iastore, .iinc 3 (1), .goto (108)]
def k_170_149 : List Instr := [.iinc 2 (1), .goto (101)]
def k_170_155 : List Instr := [.aload 0, .getstatic 700, .iload 1, .bipush (12), .iadd, .aload 0, .getstatic 700, .bipush (1), .iaload, .iastore, .aload 0, .getstatic 700, .bipush (3), .dup2, .iaload, .bipush (1), .iadd, .iastore, .return_]
theorem k_170_ok : (okc 170 0 k_170_0 && okc 170 14 k_170_14 && okc 170 42 k_170_42 && okc 170 52 k_170_52 && okc 170 67 k_170_67 && okc 170 99 k_170_99 && okc 170 101 k_170_101 && okc 170 108 k_170_108 && okc 170 149 k_170_149 && okc 170 155 k_170_155) = true := by decide +kernel
-- 171: RavenSupperModel.evening()I
def k_171_0 : List Instr := [.aload 0, .getstatic 700, .bipush (1), .iaload, .bipush (900), .if_icmp .ne (17), .aload 0, .invokeinterface 130 87, .ireturn]
def k_171_17 : List Instr := [.aload 0, .invokeinterface 170 87, .aload 0, .invokeinterface 161 87, .bipush (0), .istore 1, .iload 1, .bipush (2), .if_icmp .ge (189), .bipush (58), .bipush (5), .iload 1, .imul, .iadd, .istore 2, .aload 0, .getstatic 700, .iload 2, .bipush (2), .iadd, .iaload, .istore 3, .iload 3, .bipush (-1), .if_icmp .eq (183), .aload 0, .iload 1, .iload 3, .aload 0, .getstatic 700, .iload 2, .bipush (3), .iadd, .iaload, .invokeinterface 165 279, .istore 4, .aload 0, .getstatic 700, .bipush (4), .bipush (3), .iload 3, .imul, .iadd, .bipush (0), .iadd, .iaload, .aload 0, .getstatic 700, .iload 2, .bipush (4), .iadd, .iaload, .bipush (1), .if_icmp .ne (98), .iload 4, .goto (103)]
def k_171_27 : List Instr := [.iload 1, .bipush (2), .if_icmp .ge (189), .bipush (58), .bipush (5), .iload 1, .imul, .iadd, .istore 2, .aload 0, .getstatic 700, .iload 2, .bipush (2), .iadd, .iaload, .istore 3, .iload 3, .bipush (-1), .if_icmp .eq (183), .aload 0, .iload 1, .iload 3, .aload 0, .getstatic 700, .iload 2, .bipush (3), .iadd, .iaload, .invokeinterface 165 279, .istore 4, .aload 0, .getstatic 700, .bipush (4), .bipush (3), .iload 3, .imul, .iadd, .bipush (0), .iadd, .iaload, .aload 0, .getstatic 700, .iload 2, .bipush (4), .iadd, .iaload, .bipush (1), .if_icmp .ne (98), .iload 4, .goto (103)]
def k_171_98 : List Instr := [.bipush (16), .iload 4, .isub, .invokeinterface 167 128, .istore 5, .bipush (0), .istore 6, .iload 6, .aload 0, .getstatic 700, .iload 2, .bipush (3), .iadd, .iaload, .invokeinterface 166 64, .if_icmp .ge (142), .aload 0, .iload 3, .iload 5, .invokeinterface 168 215, .istore 5, .iinc 6 (1), .goto (111)]
def k_171_103 : List Instr := [.invokeinterface 167 128, .istore 5, .bipush (0), .istore 6, .iload 6, .aload 0, .getstatic 700, .iload 2, .bipush (3), .iadd, .iaload, .invokeinterface 166 64, .if_icmp .ge (142), .aload 0, .iload 3, .iload 5, .invokeinterface 168 215, .istore 5, .iinc 6 (1), .goto (111)]
def k_171_111 : List Instr := [.iload 6, .aload 0, .getstatic 700, .iload 2, .bipush (3), .iadd, .iaload, .invokeinterface 166 64, .if_icmp .ge (142), .aload 0, .iload 3, .iload 5, .invokeinterface 168 215, .istore 5, .iinc 6 (1), .goto (111)]
def k_171_142 : List Instr := [.aload 0, .getstatic 700, .bipush (4), .bipush (3), .iload 3, .imul, .iadd, .bipush (0), .iadd, .iload 5, .iastore, .aload 0, .getstatic 700, .iload 2, .bipush (2), .iadd, .bipush (-1), .iastore, .aload 0, .getstatic 700, .iload 2, .bipush (3), .iadd, .bipush (0), .iastore, .aload 0, .getstatic 700, .iload 2, .bipush (4), .iadd, .bipush (0), .iastore, .iinc 1 (1), .goto (27)]
def k_171_183 : List Instr := [.iinc 1 (1), .goto (27)]
def k_171_189 : List Instr := [.bipush (0), .istore 1, .iload 1, .aload 0, .getstatic 700, .bipush (0), .iaload, .if_icmp .ge (236), .aload 0, .getstatic 700, .bipush (4), .bipush (3), .iload 1, .imul, .iadd, .bipush (0), .iadd, .aload 0, .iload 1, .aload 0, .getstatic 700, .bipush (4), .bipush (3), .iload 1, .imul, .iadd, .bipush (0), .iadd, .iaload, .invokeinterface 168 215, .iastore, .iinc 1 (1), .goto (191)]
def k_171_191 : List Instr := [.iload 1, .aload 0, .getstatic 700, .bipush (0), .iaload, .if_icmp .ge (236), .aload 0, .getstatic 700, .bipush (4), .bipush (3), .iload 1, .imul, .iadd, .bipush (0), .iadd, .aload 0, .iload 1, .aload 0, .getstatic 700, .bipush (4), .bipush (3), .iload 1, .imul, .iadd, .bipush (0), .iadd, .iaload, .invokeinterface 168 215, .iastore, .iinc 1 (1), .goto (191)]
def k_171_236 : List Instr := [.aload 0, .getstatic 700, .bipush (1), .dup2, .iaload, .bipush (1), .iadd, .iastore, .aload 0, .getstatic 700, .bipush (1), .iaload, .ireturn]
theorem k_171_ok : (okc 171 0 k_171_0 && okc 171 17 k_171_17 && okc 171 27 k_171_27 && okc 171 98 k_171_98 && okc 171 103 k_171_103 && okc 171 111 k_171_111 && okc 171 142 k_171_142 && okc 171 183 k_171_183 && okc 171 189 k_171_189 && okc 171 191 k_171_191 && okc 171 236 k_171_236) = true := by decide +kernel
-- 172: RavenSupperModel.undo()I
def k_172_0 : List Instr := [.aload 0, .getstatic 700, .bipush (3), .iaload, .ifCond .ne (14), .aload 0, .invokeinterface 130 87, .ireturn]
def k_172_14 : List Instr := [.aload 0, .getstatic 700, .bipush (3), .dup2, .iaload, .bipush (1), .isub, .iastore, .bipush (92), .bipush (13), .aload 0, .getstatic 700, .bipush (3), .iaload, .imul, .iadd, .istore 1, .bipush (0), .istore 2, .iload 2, .bipush (6), .if_icmp .ge (71), .aload 0, .getstatic 700, .bipush (4), .bipush (3), .iload 2, .imul, .iadd, .bipush (0), .iadd, .aload 0, .getstatic 700, .iload 1, .iload 2, .iadd, .iaload, .iastore, .iinc 2 (1), .goto (39)]
def k_172_39 : List Instr := [.iload 2, .bipush (6), .if_icmp .ge (71), .aload 0, .getstatic 700, .bipush (4), .bipush (3), .iload 2, .imul, .iadd, .bipush (0), .iadd, .aload 0, .getstatic 700, .iload 1, .iload 2, .iadd, .iaload, .iastore, .iinc 2 (1), .goto (39)]
def k_172_71 : List Instr := [.bipush (0), .istore 2, .iload 2, .bipush (2), .if_icmp .ge (127), .bipush (0), .istore 3, .iload 3, .bipush (3), .if_icmp .ge (121), .aload 0, .getstatic 700, .bipush (58), .bipush (5), .iload 2, .imul, .iadd, .bipush (2), .iadd, .iload 3, .iadd, .aload 0, .getstatic 700, .iload 1, .bipush (6), .iadd, .bipush (3), .iload 2, .imul, .iadd, .iload 3, .iadd, .iaload, .iastore, .iinc 3 (1), .goto (80)]
def k_172_73 : List Instr := [.iload 2, .bipush (2), .if_icmp .ge (127), .bipush (0), .istore 3, .iload 3, .bipush (3), .if_icmp .ge (121), .aload 0, .getstatic 700, .bipush (58), .bipush (5), .iload 2, .imul, .iadd, .bipush (2), .iadd, .iload 3, .iadd, .aload 0, .getstatic 700, .iload 1, .bipush (6), .iadd, .bipush (3), .iload 2, .imul, .iadd, .iload 3, .iadd, .iaload, .iastore, .iinc 3 (1), .goto (80)]
def k_172_80 : List Instr := [.iload 3, .bipush (3), .if_icmp .ge (121), .aload 0, .getstatic 700, .bipush (58), .bipush (5), .iload 2, .imul, .iadd, .bipush (2), .iadd, .iload 3, .iadd, .aload 0, .getstatic 700, .iload 1, .bipush (6), .iadd, .bipush (3), .iload 2, .imul, .iadd, .iload 3, .iadd, .iaload, .iastore, .iinc 3 (1), .goto (80)]
def k_172_121 : List Instr := [.iinc 2 (1), .goto (73)]
def k_172_127 : List Instr := [.aload 0, .getstatic 700, .bipush (1), .aload 0, .getstatic 700, .iload 1, .bipush (12), .iadd, .iaload, .iastore, .bipush (1), .ireturn]
theorem k_172_ok : (okc 172 0 k_172_0 && okc 172 14 k_172_14 && okc 172 39 k_172_39 && okc 172 71 k_172_71 && okc 172 73 k_172_73 && okc 172 80 k_172_80 && okc 172 121 k_172_121 && okc 172 127 k_172_127) = true := by decide +kernel
-- 173: RavenSupperModel.doubt(I)I
def k_173_0 : List Instr := [.iload 0, .bipush (8), .if_icmp .ge (10), .iload 0, .goto (14)]
def k_173_10 : List Instr := [.bipush (16), .iload 0, .isub, .ireturn]
def k_173_14 : List Instr := [.ireturn]
theorem k_173_ok : (okc 173 0 k_173_0 && okc 173 10 k_173_10 && okc 173 14 k_173_14) = true := by decide +kernel
-- 174: RavenSupperModel.of(II)I
def k_174_0 : List Instr := [.aload 0, .getstatic 700, .iload 1, .invokeinterface 134 128, .ifCond .eq (20), .iload 2, .bipush (0), .bipush (4), .invokeinterface 125 192, .ifCond .ne (25), .aload 0, .invokeinterface 128 87, .ireturn]
def k_174_20 : List Instr := [.aload 0, .invokeinterface 128 87, .ireturn]
def k_174_25 : List Instr := [.aload 0, .invokeinterface 161 87, .iload 2, .bipush (3), .if_icmp .ge (49), .aload 0, .getstatic 700, .bipush (4), .bipush (3), .iload 1, .imul, .iadd, .iload 2, .iadd, .iaload, .goto (76)]
def k_174_49 : List Instr := [.iload 2, .bipush (3), .if_icmp .ne (70), .aload 0, .getstatic 700, .bipush (4), .bipush (3), .iload 1, .imul, .iadd, .iaload, .invokeinterface 173 64, .goto (76)]
def k_174_70 : List Instr := [.aload 0, .getstatic 708, .iload 1, .iaload, .ireturn]
def k_174_76 : List Instr := [.ireturn]
theorem k_174_ok : (okc 174 0 k_174_0 && okc 174 20 k_174_20 && okc 174 25 k_174_25 && okc 174 49 k_174_49 && okc 174 70 k_174_70 && okc 174 76 k_174_76) = true := by decide +kernel
-- 175: RavenSupperModel.about(II)I
def k_175_0 : List Instr := [.iload 1, .invokeinterface 136 64, .ifCond .eq (16), .iload 2, .bipush (0), .bipush (3), .invokeinterface 125 192, .ifCond .ne (21), .aload 0, .invokeinterface 128 87, .ireturn]
def k_175_16 : List Instr := [.aload 0, .invokeinterface 128 87, .ireturn]
def k_175_21 : List Instr := [.iload 2, .bipush (2), .if_icmp .ge (42), .aload 0, .getstatic 700, .bipush (58), .bipush (5), .iload 1, .imul, .iadd, .iload 2, .iadd, .iaload, .goto (68)]
def k_175_42 : List Instr := [.iload 2, .bipush (2), .if_icmp .ne (55), .aload 0, .iload 1, .invokeinterface 163 151, .goto (68)]
def k_175_55 : List Instr := [.aload 0, .getstatic 700, .bipush (58), .bipush (5), .iload 1, .imul, .iadd, .bipush (2), .iadd, .iaload, .ireturn]
def k_175_68 : List Instr := [.ireturn]
theorem k_175_ok : (okc 175 0 k_175_0 && okc 175 16 k_175_16 && okc 175 21 k_175_21 && okc 175 42 k_175_42 && okc 175 55 k_175_55 && okc 175 68 k_175_68) = true := by decide +kernel
-- 176: RavenSupperModel.hours(II)I
def k_176_0 : List Instr := [.aload 0, .getstatic 700, .iload 1, .iload 2, .invokeinterface 137 192, .ifCond .eq (29), .aload 0, .getstatic 700, .bipush (22), .bipush (6), .iload 1, .imul, .iadd, .iload 2, .iadd, .iaload, .goto (33)]
def k_176_29 : List Instr := [.aload 0, .invokeinterface 128 87, .ireturn]
def k_176_33 : List Instr := [.ireturn]
theorem k_176_ok : (okc 176 0 k_176_0 && okc 176 29 k_176_29 && okc 176 33 k_176_33) = true := by decide +kernel
-- 177: RavenSupperModel.sure(IIII)I
def k_177_0 : List Instr := [.iload 1, .invokeinterface 136 64, .ifCond .eq (37), .aload 0, .getstatic 700, .iload 2, .invokeinterface 134 128, .ifCond .eq (37), .iload 3, .bipush (0), .bipush (5), .invokeinterface 125 192, .ifCond .eq (37), .iload 4, .bipush (0), .bipush (1), .invokeinterface 125 192, .ifCond .ne (42), .aload 0, .invokeinterface 128 87, .ireturn]
def k_177_37 : List Instr := [.aload 0, .invokeinterface 128 87, .ireturn]
def k_177_42 : List Instr := [.aload 0, .iload 1, .invokeinterface 163 151, .iload 2, .invokeinterface 126 128, .ifCond .ne (59), .aload 0, .invokeinterface 130 87, .ireturn]
def k_177_59 : List Instr := [.iload 4, .ifCond .ne (74), .aload 0, .iload 1, .iload 2, .iload 3, .invokeinterface 165 279, .goto (78)]
def k_177_74 : List Instr := [.iload 3, .invokeinterface 166 64, .ireturn]
def k_177_78 : List Instr := [.ireturn]
theorem k_177_ok : (okc 177 0 k_177_0 && okc 177 37 k_177_37 && okc 177 42 k_177_42 && okc 177 59 k_177_59 && okc 177 74 k_177_74 && okc 177 78 k_177_78) = true := by decide +kernel
-- 178: RavenSupperModel.ahead(II)I
def k_178_0 : List Instr := [.aload 0, .getstatic 700, .iload 1, .invokeinterface 134 128, .ifCond .eq (21), .iload 2, .bipush (0), .bipush (30), .invokeinterface 125 192, .ifCond .ne (26), .aload 0, .invokeinterface 128 87, .ireturn]
def k_178_21 : List Instr := [.aload 0, .invokeinterface 128 87, .ireturn]
def k_178_26 : List Instr := [.aload 0, .getstatic 700, .bipush (4), .bipush (3), .iload 1, .imul, .iadd, .iaload, .istore 3, .bipush (0), .istore 4, .iload 4, .iload 2, .if_icmp .ge (59), .aload 0, .iload 1, .iload 3, .invokeinterface 168 215, .istore 3, .iinc 4 (1), .goto (40)]
def k_178_40 : List Instr := [.iload 4, .iload 2, .if_icmp .ge (59), .aload 0, .iload 1, .iload 3, .invokeinterface 168 215, .istore 3, .iinc 4 (1), .goto (40)]
def k_178_59 : List Instr := [.iload 3, .ireturn]
theorem k_178_ok : (okc 178 0 k_178_0 && okc 178 21 k_178_21 && okc 178 26 k_178_26 && okc 178 40 k_178_40 && okc 178 59 k_178_59) = true := by decide +kernel
-- 179: RavenSupperModel.worthOf(II)I
def k_179_0 : List Instr := [.aload 0, .getstatic 700, .bipush (4), .bipush (3), .iload 2, .imul, .iadd, .iaload, .istore 3, .aload 0, .iload 1, .iload 2, .invokeinterface 164 215, .istore 4, .iload 3, .iload 4, .imul, .bipush (16), .iload 3, .isub, .bipush (16), .iload 4, .isub, .imul, .iadd, .istore 5, .bipush (256), .iload 3, .invokeinterface 173 64, .imul, .iload 3, .iload 4, .invokeinterface 167 128, .invokeinterface 173 64, .iload 5, .imul, .isub, .iload 3, .bipush (16), .iload 4, .isub, .invokeinterface 167 128, .invokeinterface 173 64, .bipush (256), .iload 5, .isub, .imul, .isub, .ireturn]
theorem k_179_ok : (okc 179 0 k_179_0) = true := by decide +kernel
-- 180: RavenSupperModel.worth(II)I
def k_180_0 : List Instr := [.iload 1, .invokeinterface 136 64, .ifCond .eq (18), .aload 0, .getstatic 700, .iload 2, .invokeinterface 134 128, .ifCond .ne (25), .aload 0, .bipush (-100000), .invokeinterface 129 151, .ireturn]
def k_180_18 : List Instr := [.aload 0, .bipush (-100000), .invokeinterface 129 151, .ireturn]
def k_180_25 : List Instr := [.aload 0, .iload 1, .invokeinterface 163 151, .iload 2, .invokeinterface 126 128, .ifCond .ne (45), .aload 0, .invokeinterface 130 87, .pop, .bipush (-200000), .ireturn]
def k_180_45 : List Instr := [.aload 0, .iload 1, .iload 2, .invokeinterface 179 215, .ireturn]
theorem k_180_ok : (okc 180 0 k_180_0 && okc 180 18 k_180_18 && okc 180 25 k_180_25 && okc 180 45 k_180_45) = true := by decide +kernel
-- 181: RavenSupperModel.choice(III)I
def k_181_0 : List Instr := [.iload 2, .bipush (7), .if_icmp .ne (10), .bipush (0), .goto (45)]
def k_181_10 : List Instr := [.iload 2, .aload 0, .getstatic 700, .bipush (0), .iaload, .if_icmp .ge (43), .iload 3, .aload 0, .iload 1, .invokeinterface 163 151, .iand, .iload 2, .invokeinterface 126 128, .ifCond .eq (43), .aload 0, .iload 1, .iload 2, .invokeinterface 179 215, .goto (45)]
def k_181_43 : List Instr := [.bipush (-1000000), .ireturn]
def k_181_45 : List Instr := [.ireturn]
theorem k_181_ok : (okc 181 0 k_181_0 && okc 181 10 k_181_10 && okc 181 43 k_181_43 && okc 181 45 k_181_45) = true := by decide +kernel
-- 182: RavenSupperModel.areApart(II)Z
def k_182_0 : List Instr := [.iload 0, .iload 1, .if_icmp .ne (11), .iload 0, .bipush (7), .if_icmp .ne (15), .bipush (1), .goto (16)]
def k_182_11 : List Instr := [.bipush (1), .goto (16)]
def k_182_15 : List Instr := [.bipush (0), .freturn]
def k_182_16 : List Instr := [.freturn]
theorem k_182_ok : (okc 182 0 k_182_0 && okc 182 11 k_182_11 && okc 182 15 k_182_15 && okc 182 16 k_182_16) = true := by decide +kernel
-- 183: RavenSupperModel.areLands(I)Z
def k_183_0 : List Instr := [.iload 1, .bipush (0), .bipush (1), .aload 0, .getstatic 700, .bipush (0), .iaload, .ishl, .bipush (1), .isub, .invokeinterface 125 192, .freturn]
theorem k_183_ok : (okc 183 0 k_183_0) = true := by decide +kernel
-- 184: RavenSupperModel.finds(I)V
def k_184_0 : List Instr := [.aload 0, .bipush (-1), .putfield 715, .aload 0, .bipush (0), .putfield 716, .bipush (0), .istore 2, .iload 2, .bipush (64), .if_icmp .ge (103), .iload 2, .bipush (8), .idiv, .istore 3, .iload 2, .bipush (8), .irem, .istore 4, .aload 0, .bipush (0), .iload 3, .iload 1, .invokeinterface 181 279, .aload 0, .bipush (1), .iload 4, .iload 1, .invokeinterface 181 279, .iadd, .istore 5, .iload 3, .iload 4, .invokeinterface 182 128, .ifCond .eq (97), .iload 5, .bipush (-500000), .if_icmp .le (97), .aload 0, .getfield 715, .bipush (-1), .if_icmp .eq (80), .iload 5, .aload 0, .getfield 716, .if_icmp .le (97), .aload 0, .bipush (10), .iload 3, .imul, .iload 4, .iadd, .putfield 715, .aload 0, .iload 5, .putfield 716, .iinc 2 (1), .goto (12)]
def k_184_12 : List Instr := [.iload 2, .bipush (64), .if_icmp .ge (103), .iload 2, .bipush (8), .idiv, .istore 3, .iload 2, .bipush (8), .irem, .istore 4, .aload 0, .bipush (0), .iload 3, .iload 1, .invokeinterface 181 279, .aload 0, .bipush (1), .iload 4, .iload 1, .invokeinterface 181 279, .iadd, .istore 5, .iload 3, .iload 4, .invokeinterface 182 128, .ifCond .eq (97), .iload 5, .bipush (-500000), .if_icmp .le (97), .aload 0, .getfield 715, .bipush (-1), .if_icmp .eq (80), .iload 5, .aload 0, .getfield 716, .if_icmp .le (97), .aload 0, .bipush (10), .iload 3, .imul, .iload 4, .iadd, .putfield 715, .aload 0, .iload 5, .putfield 716, .iinc 2 (1), .goto (12)]
def k_184_80 : List Instr := [.aload 0, .bipush (10), .iload 3, .imul, .iload 4, .iadd, .putfield 715, .aload 0, .iload 5, .putfield 716, .iinc 2 (1), .goto (12)]
def k_184_97 : List Instr := [.iinc 2 (1), .goto (12)]
def k_184_103 : List Instr := [.return_]
theorem k_184_ok : (okc 184 0 k_184_0 && okc 184 12 k_184_12 && okc 184 80 k_184_80 && okc 184 97 k_184_97 && okc 184 103 k_184_103) = true := by decide +kernel
-- 185: RavenSupperModel.send(II)I
def k_185_0 : List Instr := [.aload 0, .iload 1, .invokeinterface 183 151, .ifCond .eq (17), .iload 2, .bipush (0), .bipush (1), .invokeinterface 125 192, .ifCond .ne (22), .aload 0, .invokeinterface 128 87, .ireturn]
def k_185_17 : List Instr := [.aload 0, .invokeinterface 128 87, .ireturn]
def k_185_22 : List Instr := [.aload 0, .iload 1, .invokeinterface 184 151, .iload 2, .ifCond .ne (38), .aload 0, .getfield 715, .goto (42)]
def k_185_38 : List Instr := [.aload 0, .getfield 716, .ireturn]
def k_185_42 : List Instr := [.ireturn]
theorem k_185_ok : (okc 185 0 k_185_0 && okc 185 17 k_185_17 && okc 185 22 k_185_22 && okc 185 38 k_185_38 && okc 185 42 k_185_42) = true := by decide +kernel
-- 186: RavenSupperModel.third(I)I
def k_186_0 : List Instr := [.aload 0, .iload 1, .invokeinterface 183 151, .ifCond .ne (13), .aload 0, .invokeinterface 128 87, .ireturn]
def k_186_13 : List Instr := [.aload 0, .iload 1, .invokeinterface 184 151, .aload 0, .getfield 716, .istore 2, .bipush (0), .istore 3, .iload 3, .bipush (512), .if_icmp .ge (135), .iload 3, .bipush (64), .idiv, .istore 4, .iload 3, .bipush (8), .idiv, .bipush (8), .irem, .istore 5, .iload 3, .bipush (8), .irem, .istore 6, .aload 0, .bipush (0), .iload 4, .iload 1, .invokeinterface 181 279, .aload 0, .bipush (1), .iload 5, .iload 1, .invokeinterface 181 279, .iadd, .aload 0, .bipush (0), .iload 6, .iload 1, .invokeinterface 181 279, .iadd, .istore 7, .iload 4, .iload 5, .invokeinterface 182 128, .ifCond .eq (127), .iload 4, .iload 6, .invokeinterface 182 128, .ifCond .eq (127), .iload 5, .iload 6, .invokeinterface 182 128, .ifCond .eq (127), .iload 7, .bipush (-500000), .if_icmp .le (127), .iload 2, .iload 7, .invokeinterface 127 128, .goto (128)]
def k_186_25 : List Instr := [.iload 3, .bipush (512), .if_icmp .ge (135), .iload 3, .bipush (64), .idiv, .istore 4, .iload 3, .bipush (8), .idiv, .bipush (8), .irem, .istore 5, .iload 3, .bipush (8), .irem, .istore 6, .aload 0, .bipush (0), .iload 4, .iload 1, .invokeinterface 181 279, .aload 0, .bipush (1), .iload 5, .iload 1, .invokeinterface 181 279, .iadd, .aload 0, .bipush (0), .iload 6, .iload 1, .invokeinterface 181 279, .iadd, .istore 7, .iload 4, .iload 5, .invokeinterface 182 128, .ifCond .eq (127), .iload 4, .iload 6, .invokeinterface 182 128, .ifCond .eq (127), .iload 5, .iload 6, .invokeinterface 182 128, .ifCond .eq (127), .iload 7, .bipush (-500000), .if_icmp .le (127), .iload 2, .iload 7, .invokeinterface 127 128, .goto (128)]
def k_186_127 : List Instr := [.iload 2, .istore 2, .iinc 3 (1), .goto (25)]
def k_186_128 : List Instr := [.istore 2, .iinc 3 (1), .goto (25)]
def k_186_135 : List Instr := [.iload 2, .aload 0, .getfield 716, .isub, .ireturn]
theorem k_186_ok : (okc 186 0 k_186_0 && okc 186 13 k_186_13 && okc 186 25 k_186_25 && okc 186 127 k_186_127 && okc 186 128 k_186_128 && okc 186 135 k_186_135) = true := by decide +kernel
-- 187: RavenSupperModel.tells(II)V
def k_187_0 : List Instr := [.iload 2, .bipush (7), .if_icmp .ge (47), .aload 0, .iload 1, .iload 2, .invokeinterface 164 215, .istore 3, .aload 0, .getstatic 707, .iload 2, .aload 0, .getstatic 707, .iload 2, .iaload, .aload 0, .getstatic 707, .iload 2, .iaload, .bipush (8), .if_icmp .lt (39), .iload 3, .goto (43)]
def k_187_39 : List Instr := [.bipush (16), .iload 3, .isub, .invokeinterface 167 128, .iastore, .return_]
def k_187_43 : List Instr := [.invokeinterface 167 128, .iastore, .return_]
def k_187_47 : List Instr := [.return_]
theorem k_187_ok : (okc 187 0 k_187_0 && okc 187 39 k_187_39 && okc 187 43 k_187_43 && okc 187 47 k_187_47) = true := by decide +kernel
-- 188: RavenSupperModel.flies(I)V
def k_188_0 : List Instr := [.aload 0, .bipush (0), .iload 1, .bipush (8), .idiv, .invokeinterface 187 215, .aload 0, .bipush (1), .iload 1, .bipush (8), .irem, .invokeinterface 187 215, .bipush (0), .istore 2, .iload 2, .aload 0, .getstatic 700, .bipush (0), .iaload, .if_icmp .ge (53), .aload 0, .getstatic 707, .iload 2, .aload 0, .iload 2, .aload 0, .getstatic 707, .iload 2, .iaload, .invokeinterface 168 215, .iastore, .iinc 2 (1), .goto (20)]
def k_188_20 : List Instr := [.iload 2, .aload 0, .getstatic 700, .bipush (0), .iaload, .if_icmp .ge (53), .aload 0, .getstatic 707, .iload 2, .aload 0, .iload 2, .aload 0, .getstatic 707, .iload 2, .iaload, .invokeinterface 168 215, .iastore, .iinc 2 (1), .goto (20)]
def k_188_53 : List Instr := [.return_]
theorem k_188_ok : (okc 188 0 k_188_0 && okc 188 20 k_188_20 && okc 188 53 k_188_53) = true := by decide +kernel
-- 189: RavenSupperModel.mayFly(III)Z
def k_189_0 : List Instr := [.iload 1, .bipush (8), .idiv, .istore 4, .iload 1, .bipush (8), .irem, .istore 5, .iload 4, .iload 5, .invokeinterface 182 128, .ifCond .eq (58), .iload 4, .bipush (7), .if_icmp .eq (38), .iload 2, .iload 4, .invokeinterface 126 128, .ifCond .eq (58), .iload 5, .bipush (7), .if_icmp .eq (54), .iload 3, .iload 5, .invokeinterface 126 128, .ifCond .eq (58), .bipush (1), .goto (59)]
def k_189_38 : List Instr := [.iload 5, .bipush (7), .if_icmp .eq (54), .iload 3, .iload 5, .invokeinterface 126 128, .ifCond .eq (58), .bipush (1), .goto (59)]
def k_189_54 : List Instr := [.bipush (1), .goto (59)]
def k_189_58 : List Instr := [.bipush (0), .freturn]
def k_189_59 : List Instr := [.freturn]
theorem k_189_ok : (okc 189 0 k_189_0 && okc 189 38 k_189_38 && okc 189 54 k_189_54 && okc 189 58 k_189_58 && okc 189 59 k_189_59) = true := by decide +kernel
-- 190: RavenSupperModel.plan(III)I
def k_190_0 : List Instr := [.iload 1, .bipush (1), .bipush (2), .invokeinterface 125 192, .ifCond .eq (22), .aload 0, .iload 2, .invokeinterface 183 151, .ifCond .eq (22), .iload 3, .bipush (-1), .if_icmp .ge (29), .aload 0, .bipush (-10), .invokeinterface 129 151, .ireturn]
def k_190_22 : List Instr := [.aload 0, .bipush (-10), .invokeinterface 129 151, .ireturn]
def k_190_29 : List Instr := [.iload 3, .iload 1, .if_icmp .lt (37), .bipush (-5), .ireturn]
def k_190_37 : List Instr := [.iload 2, .aload 0, .bipush (0), .invokeinterface 163 151, .iand, .istore 4, .iload 2, .aload 0, .bipush (1), .invokeinterface 163 151, .iand, .istore 5, .bipush (-1), .istore 6, .bipush (0), .istore 7, .bipush (0), .istore 8, .iload 8, .iload 1, .bipush (1), .if_icmp .ne (76), .bipush (64), .goto (79)]
def k_190_64 : List Instr := [.iload 8, .iload 1, .bipush (1), .if_icmp .ne (76), .bipush (64), .goto (79)]
def k_190_76 : List Instr := [.bipush (4096), .if_icmp .ge (277), .iload 1, .bipush (1), .if_icmp .ne (92), .iload 8, .goto (97)]
def k_190_79 : List Instr := [.if_icmp .ge (277), .iload 1, .bipush (1), .if_icmp .ne (92), .iload 8, .goto (97)]
def k_190_92 : List Instr := [.iload 8, .bipush (64), .idiv, .istore 9, .aload 0, .iload 9, .iload 4, .iload 5, .invokeinterface 189 279, .ifCond .eq (137), .iload 1, .bipush (1), .if_icmp .eq (133), .aload 0, .iload 8, .bipush (64), .irem, .iload 4, .iload 5, .invokeinterface 189 279, .ifCond .eq (137), .bipush (1), .goto (138)]
def k_190_97 : List Instr := [.istore 9, .aload 0, .iload 9, .iload 4, .iload 5, .invokeinterface 189 279, .ifCond .eq (137), .iload 1, .bipush (1), .if_icmp .eq (133), .aload 0, .iload 8, .bipush (64), .irem, .iload 4, .iload 5, .invokeinterface 189 279, .ifCond .eq (137), .bipush (1), .goto (138)]
def k_190_133 : List Instr := [.bipush (1), .goto (138)]
def k_190_137 : List Instr := [.bipush (0), .istore 10, .bipush (0), .istore 11, .iload 11, .bipush (6), .if_icmp .ge (174), .aload 0, .getstatic 707, .iload 11, .aload 0, .getstatic 700, .bipush (4), .bipush (3), .iload 11, .imul, .iadd, .iaload, .iastore, .iinc 11 (1), .goto (143)]
def k_190_138 : List Instr := [.istore 10, .bipush (0), .istore 11, .iload 11, .bipush (6), .if_icmp .ge (174), .aload 0, .getstatic 707, .iload 11, .aload 0, .getstatic 700, .bipush (4), .bipush (3), .iload 11, .imul, .iadd, .iaload, .iastore, .iinc 11 (1), .goto (143)]
def k_190_143 : List Instr := [.iload 11, .bipush (6), .if_icmp .ge (174), .aload 0, .getstatic 707, .iload 11, .aload 0, .getstatic 700, .bipush (4), .bipush (3), .iload 11, .imul, .iadd, .iaload, .iastore, .iinc 11 (1), .goto (143)]
def k_190_174 : List Instr := [.iload 10, .ifCond .eq (271), .aload 0, .iload 9, .invokeinterface 188 151, .iload 1, .bipush (2), .if_icmp .ne (199), .aload 0, .iload 8, .bipush (64), .irem, .invokeinterface 188 151, .bipush (0), .istore 11, .bipush (0), .istore 12, .iload 12, .aload 0, .getstatic 700, .bipush (0), .iaload, .if_icmp .ge (250), .iload 11, .iload 2, .iload 12, .invokeinterface 126 128, .ifCond .eq (240), .aload 0, .getstatic 707, .iload 12, .iaload, .invokeinterface 173 64, .goto (241)]
def k_190_199 : List Instr := [.bipush (0), .istore 11, .bipush (0), .istore 12, .iload 12, .aload 0, .getstatic 700, .bipush (0), .iaload, .if_icmp .ge (250), .iload 11, .iload 2, .iload 12, .invokeinterface 126 128, .ifCond .eq (240), .aload 0, .getstatic 707, .iload 12, .iaload, .invokeinterface 173 64, .goto (241)]
def k_190_205 : List Instr := [.iload 12, .aload 0, .getstatic 700, .bipush (0), .iaload, .if_icmp .ge (250), .iload 11, .iload 2, .iload 12, .invokeinterface 126 128, .ifCond .eq (240), .aload 0, .getstatic 707, .iload 12, .iaload, .invokeinterface 173 64, .goto (241)]
def k_190_240 : List Instr := [.bipush (0), .iadd, .istore 11, .iinc 12 (1), .goto (205)]
def k_190_241 : List Instr := [.iadd, .istore 11, .iinc 12 (1), .goto (205)]
def k_190_250 : List Instr := [.iload 6, .bipush (-1), .if_icmp .eq (263), .iload 11, .iload 7, .if_icmp .ge (271), .iload 8, .istore 6, .iload 11, .istore 7, .iinc 8 (1), .goto (64)]
def k_190_263 : List Instr := [.iload 8, .istore 6, .iload 11, .istore 7, .iinc 8 (1), .goto (64)]
def k_190_271 : List Instr := [.iinc 8 (1), .goto (64)]
def k_190_277 : List Instr := [.iload 1, .bipush (1), .if_icmp .eq (287), .iload 3, .bipush (1), .if_icmp .ne (295), .iload 6, .bipush (64), .irem, .goto (300)]
def k_190_287 : List Instr := [.iload 6, .bipush (64), .irem, .goto (300)]
def k_190_295 : List Instr := [.iload 6, .bipush (64), .idiv, .istore 8, .iload 3, .bipush (-1), .if_icmp .ne (312), .iload 7, .goto (326)]
def k_190_300 : List Instr := [.istore 8, .iload 3, .bipush (-1), .if_icmp .ne (312), .iload 7, .goto (326)]
def k_190_312 : List Instr := [.bipush (10), .iload 8, .bipush (8), .idiv, .imul, .iload 8, .bipush (8), .irem, .iadd, .ireturn]
def k_190_326 : List Instr := [.ireturn]
theorem k_190_ok : (okc 190 0 k_190_0 && okc 190 22 k_190_22 && okc 190 29 k_190_29 && okc 190 37 k_190_37 && okc 190 64 k_190_64 && okc 190 76 k_190_76 && okc 190 79 k_190_79 && okc 190 92 k_190_92 && okc 190 97 k_190_97 && okc 190 133 k_190_133 && okc 190 137 k_190_137 && okc 190 138 k_190_138 && okc 190 143 k_190_143 && okc 190 174 k_190_174 && okc 190 199 k_190_199 && okc 190 205 k_190_205 && okc 190 240 k_190_240 && okc 190 241 k_190_241 && okc 190 250 k_190_250 && okc 190 263 k_190_263 && okc 190 271 k_190_271 && okc 190 277 k_190_277 && okc 190 287 k_190_287 && okc 190 295 k_190_295 && okc 190 300 k_190_300 && okc 190 312 k_190_312 && okc 190 326 k_190_326) = true := by decide +kernel
-- 191: RavenSupperModel.isGain(I)Z
def k_191_0 : List Instr := [.iload 0, .bipush (0), .bipush (99), .invokeinterface 125 192, .freturn]
theorem k_191_ok : (okc 191 0 k_191_0) = true := by decide +kernel
-- 192: RavenSupperModel.makesWar(III)Z
def k_192_0 : List Instr := [.iload 0, .bipush (16), .iload 2, .isub, .imul, .iload 1, .iload 2, .imul, .if_icmp .le (16), .bipush (1), .goto (17)]
def k_192_16 : List Instr := [.bipush (0), .freturn]
def k_192_17 : List Instr := [.freturn]
theorem k_192_ok : (okc 192 0 k_192_0 && okc 192 16 k_192_16 && okc 192 17 k_192_17) = true := by decide +kernel
-- 193: RavenSupperModel.noon(II)I
def k_193_0 : List Instr := [.iload 1, .invokeinterface 191 64, .ifCond .eq (14), .iload 2, .invokeinterface 191 64, .ifCond .ne (19), .aload 0, .invokeinterface 128 87, .ireturn]
def k_193_14 : List Instr := [.aload 0, .invokeinterface 128 87, .ireturn]
def k_193_19 : List Instr := [.bipush (0), .istore 3, .iload 1, .iload 2, .iload 3, .invokeinterface 192 192, .ifCond .eq (36), .iinc 3 (1), .goto (21)]
def k_193_21 : List Instr := [.iload 1, .iload 2, .iload 3, .invokeinterface 192 192, .ifCond .eq (36), .iinc 3 (1), .goto (21)]
def k_193_36 : List Instr := [.iload 3, .ireturn]
theorem k_193_ok : (okc 193 0 k_193_0 && okc 193 14 k_193_14 && okc 193 19 k_193_19 && okc 193 21 k_193_21 && okc 193 36 k_193_36) = true := by decide +kernel
-- 194: RavenSupperModel.mixed(IIII)I
def k_194_0 : List Instr := [.iload 1, .invokeinterface 191 64, .ifCond .eq (29), .iload 2, .invokeinterface 191 64, .ifCond .eq (29), .iload 3, .invokeinterface 191 64, .ifCond .eq (29), .iload 4, .invokeinterface 191 64, .ifCond .ne (36), .aload 0, .bipush (-10), .invokeinterface 129 151, .ireturn]
def k_194_29 : List Instr := [.aload 0, .bipush (-10), .invokeinterface 129 151, .ireturn]
def k_194_36 : List Instr := [.bipush (0), .istore 5, .iload 5, .bipush (17), .if_icmp .ge (79), .iload 1, .iload 2, .iload 5, .invokeinterface 192 192, .ifCond .ne (73), .iload 3, .iload 4, .bipush (16), .iload 5, .isub, .invokeinterface 192 192, .ifCond .ne (73), .iload 5, .ireturn]
def k_194_39 : List Instr := [.iload 5, .bipush (17), .if_icmp .ge (79), .iload 1, .iload 2, .iload 5, .invokeinterface 192 192, .ifCond .ne (73), .iload 3, .iload 4, .bipush (16), .iload 5, .isub, .invokeinterface 192 192, .ifCond .ne (73), .iload 5, .ireturn]
def k_194_73 : List Instr := [.iinc 5 (1), .goto (39)]
def k_194_79 : List Instr := [.bipush (-1), .ireturn]
theorem k_194_ok : (okc 194 0 k_194_0 && okc 194 29 k_194_29 && okc 194 36 k_194_36 && okc 194 39 k_194_39 && okc 194 73 k_194_73 && okc 194 79 k_194_79) = true := by decide +kernel
-- 195: RavenSupperModel.power(II)I
def k_195_0 : List Instr := [.bipush (1), .istore 2, .bipush (0), .istore 3, .iload 3, .iload 1, .if_icmp .ge (19), .iload 2, .iload 0, .imul, .istore 2, .iinc 3 (1), .goto (4)]
def k_195_4 : List Instr := [.iload 3, .iload 1, .if_icmp .ge (19), .iload 2, .iload 0, .imul, .istore 2, .iinc 3 (1), .goto (4)]
def k_195_19 : List Instr := [.iload 2, .ireturn]
theorem k_195_ok : (okc 195 0 k_195_0 && okc 195 4 k_195_4 && okc 195 19 k_195_19) = true := by decide +kernel
-- 196: RavenSupperModel.sees(IIII)Z
def k_196_0 : List Instr := [.bipush (1), .istore 4, .bipush (0), .istore 5, .iload 5, .iload 1, .if_icmp .ge (85), .bipush (0), .istore 6, .bipush (0), .istore 7, .iload 7, .iload 3, .if_icmp .ge (58), .iload 6, .bipush (1), .iload 0, .bipush (6), .iload 1, .bipush (1), .isub, .iload 5, .iload 7, .iadd, .iload 1, .irem, .isub, .invokeinterface 195 128, .idiv, .bipush (6), .irem, .ishl, .ior, .istore 6, .iinc 7 (1), .goto (18)]
def k_196_6 : List Instr := [.iload 5, .iload 1, .if_icmp .ge (85), .bipush (0), .istore 6, .bipush (0), .istore 7, .iload 7, .iload 3, .if_icmp .ge (58), .iload 6, .bipush (1), .iload 0, .bipush (6), .iload 1, .bipush (1), .isub, .iload 5, .iload 7, .iadd, .iload 1, .irem, .isub, .invokeinterface 195 128, .idiv, .bipush (6), .irem, .ishl, .ior, .istore 6, .iinc 7 (1), .goto (18)]
def k_196_18 : List Instr := [.iload 7, .iload 3, .if_icmp .ge (58), .iload 6, .bipush (1), .iload 0, .bipush (6), .iload 1, .bipush (1), .isub, .iload 5, .iload 7, .iadd, .iload 1, .irem, .isub, .invokeinterface 195 128, .idiv, .bipush (6), .irem, .ishl, .ior, .istore 6, .iinc 7 (1), .goto (18)]
def k_196_58 : List Instr := [.iload 4, .ifCond .eq (76), .iload 2, .iload 6, .bipush (-1), .ixor, .iand, .ifCond .ne (76), .bipush (1), .goto (77)]
def k_196_76 : List Instr := [.bipush (0), .istore 4, .iinc 5 (1), .goto (6)]
def k_196_77 : List Instr := [.istore 4, .iinc 5 (1), .goto (6)]
def k_196_85 : List Instr := [.iload 4, .freturn]
theorem k_196_ok : (okc 196 0 k_196_0 && okc 196 6 k_196_6 && okc 196 18 k_196_18 && okc 196 58 k_196_58 && okc 196 76 k_196_76 && okc 196 77 k_196_77 && okc 196 85 k_196_85) = true := by decide +kernel
-- 197: RavenSupperModel.round(IIII)I
def k_197_0 : List Instr := [.iload 1, .bipush (1), .bipush (5), .invokeinterface 125 192, .ifCond .eq (32), .aload 0, .iload 2, .invokeinterface 183 151, .ifCond .eq (32), .iload 3, .bipush (1), .bipush (12), .invokeinterface 125 192, .ifCond .eq (32), .iload 4, .ifCond .ge (39), .aload 0, .bipush (-10), .invokeinterface 129 151, .ireturn]
def k_197_32 : List Instr := [.aload 0, .bipush (-10), .invokeinterface 129 151, .ireturn]
def k_197_39 : List Instr := [.aload 0, .bipush (0), .invokeinterface 163 151, .istore 5, .bipush (0), .istore 6, .iload 6, .bipush (6), .iload 1, .invokeinterface 195 128, .if_icmp .ge (162), .bipush (1), .istore 7, .bipush (0), .istore 8, .iload 8, .iload 1, .if_icmp .ge (111), .iload 7, .ifCond .eq (102), .iload 5, .iload 6, .bipush (6), .iload 8, .invokeinterface 195 128, .idiv, .bipush (6), .irem, .invokeinterface 126 128, .ifCond .eq (102), .bipush (1), .goto (103)]
def k_197_49 : List Instr := [.iload 6, .bipush (6), .iload 1, .invokeinterface 195 128, .if_icmp .ge (162), .bipush (1), .istore 7, .bipush (0), .istore 8, .iload 8, .iload 1, .if_icmp .ge (111), .iload 7, .ifCond .eq (102), .iload 5, .iload 6, .bipush (6), .iload 8, .invokeinterface 195 128, .idiv, .bipush (6), .irem, .invokeinterface 126 128, .ifCond .eq (102), .bipush (1), .goto (103)]
def k_197_66 : List Instr := [.iload 8, .iload 1, .if_icmp .ge (111), .iload 7, .ifCond .eq (102), .iload 5, .iload 6, .bipush (6), .iload 8, .invokeinterface 195 128, .idiv, .bipush (6), .irem, .invokeinterface 126 128, .ifCond .eq (102), .bipush (1), .goto (103)]
def k_197_102 : List Instr := [.bipush (0), .istore 7, .iinc 8 (1), .goto (66)]
def k_197_103 : List Instr := [.istore 7, .iinc 8 (1), .goto (66)]
def k_197_111 : List Instr := [.iload 7, .ifCond .eq (156), .iload 6, .iload 1, .iload 2, .iload 3, .invokeinterface 196 256, .ifCond .eq (156), .iload 4, .iload 1, .if_icmp .ge (153), .iload 6, .bipush (6), .iload 1, .bipush (1), .isub, .iload 4, .isub, .invokeinterface 195 128, .idiv, .bipush (6), .irem, .goto (155)]
def k_197_153 : List Instr := [.bipush (-5), .ireturn]
def k_197_155 : List Instr := [.ireturn]
def k_197_156 : List Instr := [.iinc 6 (1), .goto (49)]
def k_197_162 : List Instr := [.bipush (-1), .ireturn]
theorem k_197_ok : (okc 197 0 k_197_0 && okc 197 32 k_197_32 && okc 197 39 k_197_39 && okc 197 49 k_197_49 && okc 197 66 k_197_66 && okc 197 102 k_197_102 && okc 197 103 k_197_103 && okc 197 111 k_197_111 && okc 197 153 k_197_153 && okc 197 155 k_197_155 && okc 197 156 k_197_156 && okc 197 162 k_197_162) = true := by decide +kernel
-- 198: RavenSupperModel.crow(IIZ)I
def k_198_0 : List Instr := [.iload 1, .bipush (0), .bipush (3), .invokeinterface 125 192, .ifCond .eq (20), .aload 0, .getstatic 700, .iload 2, .invokeinterface 134 128, .ifCond .ne (25), .aload 0, .invokeinterface 128 87, .ireturn]
def k_198_20 : List Instr := [.aload 0, .invokeinterface 128 87, .ireturn]
def k_198_25 : List Instr := [.aload 0, .getstatic 700, .bipush (2), .iaload, .bipush (8), .if_icmp .ne (41), .aload 0, .invokeinterface 131 87, .ireturn]
def k_198_41 : List Instr := [.bipush (68), .bipush (3), .aload 0, .getstatic 700, .bipush (2), .iaload, .imul, .iadd, .istore 4, .aload 0, .getstatic 700, .iload 4, .iload 1, .iastore, .aload 0, .getstatic 700, .iload 4, .bipush (1), .iadd, .iload 2, .iastore, .aload 0, .getstatic 700, .iload 4, .bipush (2), .iadd, .iload 3, .ifCond .eq (88), .bipush (1), .goto (89)]
def k_198_88 : List Instr := [.bipush (0), .iastore, .aload 0, .getstatic 700, .bipush (2), .dup2, .iaload, .bipush (1), .iadd, .iastore, .aload 0, .getstatic 700, .bipush (3), .bipush (0), .iastore, .aload 0, .getstatic 700, .bipush (2), .iaload, .ireturn]
def k_198_89 : List Instr := [.iastore, .aload 0, .getstatic 700, .bipush (2), .dup2, .iaload, .bipush (1), .iadd, .iastore, .aload 0, .getstatic 700, .bipush (3), .bipush (0), .iastore, .aload 0, .getstatic 700, .bipush (2), .iaload, .ireturn]
theorem k_198_ok : (okc 198 0 k_198_0 && okc 198 20 k_198_20 && okc 198 25 k_198_25 && okc 198 41 k_198_41 && okc 198 88 k_198_88 && okc 198 89 k_198_89) = true := by decide +kernel
-- 199: RavenSupperModel.hush()I
def k_199_0 : List Instr := [.aload 0, .getstatic 700, .bipush (2), .iaload, .istore 1, .aload 0, .getstatic 700, .bipush (2), .bipush (0), .iastore, .aload 0, .getstatic 700, .bipush (3), .bipush (0), .iastore, .iload 1, .ireturn]
theorem k_199_ok : (okc 199 0 k_199_0) = true := by decide +kernel
-- 200: RavenSupperModel.holds(I)Z
def k_200_0 : List Instr := [.bipush (0), .istore 2, .bipush (0), .istore 3, .bipush (0), .istore 4, .iload 4, .aload 0, .getstatic 700, .bipush (2), .iaload, .if_icmp .ge (119), .bipush (1), .aload 0, .getstatic 700, .bipush (68), .bipush (3), .iload 4, .imul, .iadd, .bipush (1), .iadd, .iaload, .ishl, .istore 5, .aload 0, .getstatic 700, .bipush (68), .bipush (3), .iload 4, .imul, .iadd, .bipush (2), .iadd, .iaload, .bipush (1), .if_icmp .ne (58), .bipush (1), .goto (59)]
def k_200_7 : List Instr := [.iload 4, .aload 0, .getstatic 700, .bipush (2), .iaload, .if_icmp .ge (119), .bipush (1), .aload 0, .getstatic 700, .bipush (68), .bipush (3), .iload 4, .imul, .iadd, .bipush (1), .iadd, .iaload, .ishl, .istore 5, .aload 0, .getstatic 700, .bipush (68), .bipush (3), .iload 4, .imul, .iadd, .bipush (2), .iadd, .iaload, .bipush (1), .if_icmp .ne (58), .bipush (1), .goto (59)]
def k_200_58 : List Instr := [.bipush (0), .iload 1, .aload 0, .getstatic 700, .bipush (68), .bipush (3), .iload 4, .imul, .iadd, .iaload, .invokeinterface 126 128, .if_icmp .eq (82), .bipush (1), .goto (83)]
def k_200_59 : List Instr := [.iload 1, .aload 0, .getstatic 700, .bipush (68), .bipush (3), .iload 4, .imul, .iadd, .iaload, .invokeinterface 126 128, .if_icmp .eq (82), .bipush (1), .goto (83)]
def k_200_82 : List Instr := [.bipush (0), .istore 6, .iload 2, .iload 6, .ifCond .eq (96), .iload 5, .goto (97)]
def k_200_83 : List Instr := [.istore 6, .iload 2, .iload 6, .ifCond .eq (96), .iload 5, .goto (97)]
def k_200_96 : List Instr := [.bipush (0), .ior, .istore 2, .iload 3, .iload 6, .ifCond .eq (109), .bipush (0), .goto (111)]
def k_200_97 : List Instr := [.ior, .istore 2, .iload 3, .iload 6, .ifCond .eq (109), .bipush (0), .goto (111)]
def k_200_109 : List Instr := [.iload 5, .ior, .istore 3, .iinc 4 (1), .goto (7)]
def k_200_111 : List Instr := [.ior, .istore 3, .iinc 4 (1), .goto (7)]
def k_200_119 : List Instr := [.iload 2, .iload 3, .iand, .ifCond .ne (129), .bipush (1), .goto (130)]
def k_200_129 : List Instr := [.bipush (0), .freturn]
def k_200_130 : List Instr := [.freturn]
theorem k_200_ok : (okc 200 0 k_200_0 && okc 200 7 k_200_7 && okc 200 58 k_200_58 && okc 200 59 k_200_59 && okc 200 82 k_200_82 && okc 200 83 k_200_83 && okc 200 96 k_200_96 && okc 200 97 k_200_97 && okc 200 109 k_200_109 && okc 200 111 k_200_111 && okc 200 119 k_200_119 && okc 200 129 k_200_129 && okc 200 130 k_200_130) = true := by decide +kernel
-- 201: RavenSupperModel.liars(I)I
def k_201_0 : List Instr := [.iload 1, .bipush (0), .bipush (1), .invokeinterface 125 192, .ifCond .ne (16), .aload 0, .bipush (-10), .invokeinterface 129 151, .ireturn]
def k_201_16 : List Instr := [.bipush (0), .istore 2, .bipush (15), .istore 3, .bipush (0), .istore 4, .iload 4, .bipush (16), .if_icmp .ge (54), .aload 0, .iload 4, .invokeinterface 200 151, .ifCond .eq (48), .iinc 2 (1), .iload 3, .iload 4, .iand, .istore 3, .iinc 4 (1), .goto (24)]
def k_201_24 : List Instr := [.iload 4, .bipush (16), .if_icmp .ge (54), .aload 0, .iload 4, .invokeinterface 200 151, .ifCond .eq (48), .iinc 2 (1), .iload 3, .iload 4, .iand, .istore 3, .iinc 4 (1), .goto (24)]
def k_201_48 : List Instr := [.iinc 4 (1), .goto (24)]
def k_201_54 : List Instr := [.iload 1, .ifCond .ne (62), .iload 2, .goto (71)]
def k_201_62 : List Instr := [.iload 2, .ifCond .ne (70), .bipush (-1), .goto (71)]
def k_201_70 : List Instr := [.iload 3, .ireturn]
def k_201_71 : List Instr := [.ireturn]
theorem k_201_ok : (okc 201 0 k_201_0 && okc 201 16 k_201_16 && okc 201 24 k_201_24 && okc 201 48 k_201_48 && okc 201 54 k_201_54 && okc 201 62 k_201_62 && okc 201 70 k_201_70 && okc 201 71 k_201_71) = true := by decide +kernel
-- 202: RavenSupperModel.leftOut(IIII)I
def k_202_0 : List Instr := [.iload 1, .bipush (0), .bipush (6), .invokeinterface 125 192, .ifCond .eq (50), .aload 0, .getstatic 700, .iload 2, .invokeinterface 134 128, .ifCond .eq (50), .aload 0, .getstatic 700, .iload 3, .invokeinterface 134 128, .ifCond .eq (50), .iload 4, .bipush (-1), .if_icmp .eq (55), .aload 0, .getstatic 700, .iload 4, .invokeinterface 134 128, .ifCond .ne (55), .aload 0, .invokeinterface 128 87, .ireturn]
def k_202_50 : List Instr := [.aload 0, .invokeinterface 128 87, .ireturn]
def k_202_55 : List Instr := [.bipush (0), .istore 5, .bipush (0), .istore 6, .iload 6, .bipush (1), .aload 0, .getstatic 700, .bipush (0), .iaload, .ishl, .if_icmp .ge (161), .bipush (0), .istore 7, .bipush (0), .istore 8, .iload 8, .bipush (6), .if_icmp .ge (105), .iload 7, .iload 6, .iload 8, .ishr, .bipush (1), .iand, .iadd, .istore 7, .iinc 8 (1), .goto (80)]
def k_202_61 : List Instr := [.iload 6, .bipush (1), .aload 0, .getstatic 700, .bipush (0), .iaload, .ishl, .if_icmp .ge (161), .bipush (0), .istore 7, .bipush (0), .istore 8, .iload 8, .bipush (6), .if_icmp .ge (105), .iload 7, .iload 6, .iload 8, .ishr, .bipush (1), .iand, .iadd, .istore 7, .iinc 8 (1), .goto (80)]
def k_202_80 : List Instr := [.iload 8, .bipush (6), .if_icmp .ge (105), .iload 7, .iload 6, .iload 8, .ishr, .bipush (1), .iand, .iadd, .istore 7, .iinc 8 (1), .goto (80)]
def k_202_105 : List Instr := [.iload 5, .iload 7, .iload 1, .if_icmp .ne (151), .iload 6, .iload 2, .invokeinterface 126 128, .ifCond .eq (151), .iload 6, .iload 3, .invokeinterface 126 128, .ifCond .eq (151), .iload 4, .bipush (-1), .if_icmp .eq (147), .iload 6, .iload 4, .invokeinterface 126 128, .ifCond .eq (151), .bipush (1), .goto (152)]
def k_202_147 : List Instr := [.bipush (1), .goto (152)]
def k_202_151 : List Instr := [.bipush (0), .iadd, .istore 5, .iinc 6 (1), .goto (61)]
def k_202_152 : List Instr := [.iadd, .istore 5, .iinc 6 (1), .goto (61)]
def k_202_161 : List Instr := [.iload 5, .ireturn]
theorem k_202_ok : (okc 202 0 k_202_0 && okc 202 50 k_202_50 && okc 202 55 k_202_55 && okc 202 61 k_202_61 && okc 202 80 k_202_80 && okc 202 105 k_202_105 && okc 202 147 k_202_147 && okc 202 151 k_202_151 && okc 202 152 k_202_152 && okc 202 161 k_202_161) = true := by decide +kernel
-- 203: RavenSupperModel.mornings(II)I
def k_203_0 : List Instr := [.iload 1, .bipush (0), .bipush (60), .invokeinterface 125 192, .ifCond .eq (20), .iload 2, .bipush (0), .bipush (999999), .invokeinterface 125 192, .ifCond .ne (25), .aload 0, .invokeinterface 128 87, .ireturn]
def k_203_20 : List Instr := [.aload 0, .invokeinterface 128 87, .ireturn]
def k_203_25 : List Instr := [.iload 2, .i2l, .lstore 3, .bipush (0), .istore 5, .bipush (0), .istore 6, .bipush (0), .istore 7, .iload 7, .iload 1, .if_icmp .ge (169), .bipush (0), .istore 8, .iload 8, .aload 0, .getstatic 700, .bipush (0), .iaload, .if_icmp .ge (135), .lload 3, .sipush (1103515245), .lmul, .sipush (12345), .ladd, .sipush (2147483648), .lrem, .lstore 3, .aload 0, .getstatic 700, .bipush (4), .bipush (3), .iload 8, .imul, .iadd, .iload 5, .iload 8, .invokeinterface 126 128, .ifCond .eq (95), .bipush (2), .goto (96)]
def k_203_37 : List Instr := [.iload 7, .iload 1, .if_icmp .ge (169), .bipush (0), .istore 8, .iload 8, .aload 0, .getstatic 700, .bipush (0), .iaload, .if_icmp .ge (135), .lload 3, .sipush (1103515245), .lmul, .sipush (12345), .ladd, .sipush (2147483648), .lrem, .lstore 3, .aload 0, .getstatic 700, .bipush (4), .bipush (3), .iload 8, .imul, .iadd, .iload 5, .iload 8, .invokeinterface 126 128, .ifCond .eq (95), .bipush (2), .goto (96)]
def k_203_46 : List Instr := [.iload 8, .aload 0, .getstatic 700, .bipush (0), .iaload, .if_icmp .ge (135), .lload 3, .sipush (1103515245), .lmul, .sipush (12345), .ladd, .sipush (2147483648), .lrem, .lstore 3, .aload 0, .getstatic 700, .bipush (4), .bipush (3), .iload 8, .imul, .iadd, .iload 5, .iload 8, .invokeinterface 126 128, .ifCond .eq (95), .bipush (2), .goto (96)]
def k_203_95 : List Instr := [.bipush (1), .iadd, .iaload, .istore 9, .iload 5, .lload 3, .sipush (65536), .ldiv, .sipush (16), .lrem, .iload 9, .i2l, .lcmp, .ifCond .ge (125), .bipush (1), .iload 8, .ishl, .goto (126)]
def k_203_96 : List Instr := [.iadd, .iaload, .istore 9, .iload 5, .lload 3, .sipush (65536), .ldiv, .sipush (16), .lrem, .iload 9, .i2l, .lcmp, .ifCond .ge (125), .bipush (1), .iload 8, .ishl, .goto (126)]
def k_203_125 : List Instr := [.bipush (0), .ixor, .istore 5, .iinc 8 (1), .goto (46)]
def k_203_126 : List Instr := [.ixor, .istore 5, .iinc 8 (1), .goto (46)]
def k_203_135 : List Instr := [.bipush (0), .istore 8, .iload 8, .bipush (6), .if_icmp .ge (163), .iload 6, .iload 5, .iload 8, .ishr, .bipush (1), .iand, .iadd, .istore 6, .iinc 8 (1), .goto (138)]
def k_203_138 : List Instr := [.iload 8, .bipush (6), .if_icmp .ge (163), .iload 6, .iload 5, .iload 8, .ishr, .bipush (1), .iand, .iadd, .istore 6, .iinc 8 (1), .goto (138)]
def k_203_163 : List Instr := [.iinc 7 (1), .goto (37)]
def k_203_169 : List Instr := [.iload 6, .ireturn]
theorem k_203_ok : (okc 203 0 k_203_0 && okc 203 20 k_203_20 && okc 203 25 k_203_25 && okc 203 37 k_203_37 && okc 203 46 k_203_46 && okc 203 95 k_203_95 && okc 203 96 k_203_96 && okc 203 125 k_203_125 && okc 203 126 k_203_126 && okc 203 135 k_203_135 && okc 203 138 k_203_138 && okc 203 163 k_203_163 && okc 203 169 k_203_169) = true := by decide +kernel
-- 204: RavenSupperModel.image(I)I
def k_204_0 : List Instr := [.iload 1, .bipush (0), .bipush (1), .invokeinterface 125 192, .ifCond .ne (14), .aload 0, .invokeinterface 128 87, .ireturn]
def k_204_14 : List Instr := [.aload 0, .getstatic 700, .bipush (0), .aload 0, .getstatic 702, .bipush (196), .iload 1, .imul, .invokeinterface 132 256, .aload 0, .getstatic 703, .iload 1, .bipush (1), .bastore, .bipush (1), .ireturn]
theorem k_204_ok : (okc 204 0 k_204_0 && okc 204 14 k_204_14) = true := by decide +kernel
-- 205: RavenSupperModel.from(I)I
def k_205_0 : List Instr := [.iload 1, .bipush (0), .bipush (1), .invokeinterface 125 192, .ifCond .ne (14), .aload 0, .invokeinterface 128 87, .ireturn]
def k_205_14 : List Instr := [.aload 0, .getstatic 703, .iload 1, .baload, .ifCond .ne (28), .aload 0, .invokeinterface 130 87, .ireturn]
def k_205_28 : List Instr := [.aload 0, .getstatic 702, .bipush (196), .iload 1, .imul, .aload 0, .getstatic 700, .bipush (0), .invokeinterface 132 256, .bipush (1), .ireturn]
theorem k_205_ok : (okc 205 0 k_205_0 && okc 205 14 k_205_14 && okc 205 28 k_205_28) = true := by decide +kernel
-- 206: RavenSupperModel.status(I)I
def k_206_0 : List Instr := [.iload 1, .bipush (0), .bipush (2), .invokeinterface 125 192, .ifCond .eq (18), .aload 0, .getstatic 704, .iload 1, .iaload, .goto (23)]
def k_206_18 : List Instr := [.aload 0, .bipush (-1), .invokeinterface 129 151, .ireturn]
def k_206_23 : List Instr := [.ireturn]
theorem k_206_ok : (okc 206 0 k_206_0 && okc 206 18 k_206_18 && okc 206 23 k_206_23) = true := by decide +kernel
-- 207: RavenSupperModel.ways()I
def k_207_0 : List Instr := [.bipush (0), .istore 1, .bipush (0), .istore 2, .iload 2, .bipush (6), .if_icmp .ge (57), .iload 2, .bipush (1), .iadd, .istore 3, .iload 3, .bipush (6), .if_icmp .ge (51), .iload 1, .aload 0, .getstatic 700, .bipush (22), .bipush (6), .iload 2, .imul, .iadd, .iload 3, .iadd, .iaload, .ifCond .le (42), .bipush (1), .goto (43)]
def k_207_4 : List Instr := [.iload 2, .bipush (6), .if_icmp .ge (57), .iload 2, .bipush (1), .iadd, .istore 3, .iload 3, .bipush (6), .if_icmp .ge (51), .iload 1, .aload 0, .getstatic 700, .bipush (22), .bipush (6), .iload 2, .imul, .iadd, .iload 3, .iadd, .iaload, .ifCond .le (42), .bipush (1), .goto (43)]
def k_207_14 : List Instr := [.iload 3, .bipush (6), .if_icmp .ge (51), .iload 1, .aload 0, .getstatic 700, .bipush (22), .bipush (6), .iload 2, .imul, .iadd, .iload 3, .iadd, .iaload, .ifCond .le (42), .bipush (1), .goto (43)]
def k_207_42 : List Instr := [.bipush (0), .iadd, .istore 1, .iinc 3 (1), .goto (14)]
def k_207_43 : List Instr := [.iadd, .istore 1, .iinc 3 (1), .goto (14)]
def k_207_51 : List Instr := [.iinc 2 (1), .goto (4)]
def k_207_57 : List Instr := [.iload 1, .ireturn]
theorem k_207_ok : (okc 207 0 k_207_0 && okc 207 4 k_207_4 && okc 207 14 k_207_14 && okc 207 42 k_207_42 && okc 207 43 k_207_43 && okc 207 51 k_207_51 && okc 207 57 k_207_57) = true := by decide +kernel
-- 208: RavenSupperModel.counted(I)I
def k_208_0 : List Instr := [.iload 1, .ifCond .ne (13), .aload 0, .getstatic 700, .bipush (0), .iaload, .goto (71)]
def k_208_13 : List Instr := [.iload 1, .bipush (1), .if_icmp .ne (27), .aload 0, .getstatic 700, .bipush (1), .iaload, .goto (71)]
def k_208_27 : List Instr := [.iload 1, .bipush (2), .if_icmp .ne (39), .aload 0, .invokeinterface 207 87, .goto (71)]
def k_208_39 : List Instr := [.iload 1, .bipush (3), .if_icmp .ne (53), .aload 0, .getstatic 700, .bipush (2), .iaload, .goto (71)]
def k_208_53 : List Instr := [.iload 1, .bipush (4), .if_icmp .ne (67), .aload 0, .getstatic 700, .bipush (3), .iaload, .goto (71)]
def k_208_67 : List Instr := [.aload 0, .getfield 706, .ireturn]
def k_208_71 : List Instr := [.ireturn]
theorem k_208_ok : (okc 208 0 k_208_0 && okc 208 13 k_208_13 && okc 208 27 k_208_27 && okc 208 39 k_208_39 && okc 208 53 k_208_53 && okc 208 67 k_208_67 && okc 208 71 k_208_71) = true := by decide +kernel
-- 209: RavenSupperModel.count(I)I
def k_209_0 : List Instr := [.iload 1, .bipush (0), .bipush (5), .invokeinterface 125 192, .ifCond .eq (17), .aload 0, .iload 1, .invokeinterface 208 151, .goto (21)]
def k_209_17 : List Instr := [.aload 0, .invokeinterface 128 87, .ireturn]
def k_209_21 : List Instr := [.ireturn]
theorem k_209_ok : (okc 209 0 k_209_0 && okc 209 17 k_209_17 && okc 209 21 k_209_21) = true := by decide +kernel
-- 210: RavenSupperModel.digest()J
def k_210_0 : List Instr := [.sipush (911), .lstore 1, .bipush (0), .istore 3, .iload 3, .bipush (6), .if_icmp .ge (31), .sipush (31), .lload 1, .lmul, .aload 0, .iload 3, .invokeinterface 208 151, .i2l, .ladd, .lstore 1, .iinc 3 (1), .goto (6)]
def k_210_6 : List Instr := [.iload 3, .bipush (6), .if_icmp .ge (31), .sipush (31), .lload 1, .lmul, .aload 0, .iload 3, .invokeinterface 208 151, .i2l, .ladd, .lstore 1, .iinc 3 (1), .goto (6)]
def k_210_31 : List Instr := [.bipush (0), .istore 3, .iload 3, .bipush (3), .aload 0, .getstatic 700, .bipush (0), .iaload, .imul, .if_icmp .ge (67), .sipush (31), .lload 1, .lmul, .aload 0, .getstatic 700, .bipush (4), .iload 3, .iadd, .iaload, .i2l, .ladd, .lstore 1, .iinc 3 (1), .goto (33)]
def k_210_33 : List Instr := [.iload 3, .bipush (3), .aload 0, .getstatic 700, .bipush (0), .iaload, .imul, .if_icmp .ge (67), .sipush (31), .lload 1, .lmul, .aload 0, .getstatic 700, .bipush (4), .iload 3, .iadd, .iaload, .i2l, .ladd, .lstore 1, .iinc 3 (1), .goto (33)]
def k_210_67 : List Instr := [.bipush (0), .istore 3, .iload 3, .aload 0, .getstatic 700, .bipush (0), .iaload, .if_icmp .ge (130), .iload 3, .bipush (1), .iadd, .istore 4, .iload 4, .aload 0, .getstatic 700, .bipush (0), .iaload, .if_icmp .ge (124), .sipush (31), .lload 1, .lmul, .aload 0, .getstatic 700, .bipush (22), .bipush (6), .iload 3, .imul, .iadd, .iload 4, .iadd, .iaload, .i2l, .ladd, .lstore 1, .iinc 4 (1), .goto (84)]
def k_210_69 : List Instr := [.iload 3, .aload 0, .getstatic 700, .bipush (0), .iaload, .if_icmp .ge (130), .iload 3, .bipush (1), .iadd, .istore 4, .iload 4, .aload 0, .getstatic 700, .bipush (0), .iaload, .if_icmp .ge (124), .sipush (31), .lload 1, .lmul, .aload 0, .getstatic 700, .bipush (22), .bipush (6), .iload 3, .imul, .iadd, .iload 4, .iadd, .iaload, .i2l, .ladd, .lstore 1, .iinc 4 (1), .goto (84)]
def k_210_84 : List Instr := [.iload 4, .aload 0, .getstatic 700, .bipush (0), .iaload, .if_icmp .ge (124), .sipush (31), .lload 1, .lmul, .aload 0, .getstatic 700, .bipush (22), .bipush (6), .iload 3, .imul, .iadd, .iload 4, .iadd, .iaload, .i2l, .ladd, .lstore 1, .iinc 4 (1), .goto (84)]
def k_210_124 : List Instr := [.iinc 3 (1), .goto (69)]
def k_210_130 : List Instr := [.bipush (0), .istore 3, .iload 3, .bipush (10), .if_icmp .ge (161), .sipush (31), .lload 1, .lmul, .aload 0, .getstatic 700, .bipush (58), .iload 3, .iadd, .iaload, .i2l, .ladd, .lstore 1, .iinc 3 (1), .goto (132)]
def k_210_132 : List Instr := [.iload 3, .bipush (10), .if_icmp .ge (161), .sipush (31), .lload 1, .lmul, .aload 0, .getstatic 700, .bipush (58), .iload 3, .iadd, .iaload, .i2l, .ladd, .lstore 1, .iinc 3 (1), .goto (132)]
def k_210_161 : List Instr := [.bipush (0), .istore 3, .iload 3, .bipush (3), .aload 0, .getstatic 700, .bipush (2), .iaload, .imul, .if_icmp .ge (198), .sipush (31), .lload 1, .lmul, .aload 0, .getstatic 700, .bipush (68), .iload 3, .iadd, .iaload, .i2l, .ladd, .lstore 1, .iinc 3 (1), .goto (163)]
def k_210_163 : List Instr := [.iload 3, .bipush (3), .aload 0, .getstatic 700, .bipush (2), .iaload, .imul, .if_icmp .ge (198), .sipush (31), .lload 1, .lmul, .aload 0, .getstatic 700, .bipush (68), .iload 3, .iadd, .iaload, .i2l, .ladd, .lstore 1, .iinc 3 (1), .goto (163)]
def k_210_198 : List Instr := [.lload 1, .lreturn]
theorem k_210_ok : (okc 210 0 k_210_0 && okc 210 6 k_210_6 && okc 210 31 k_210_31 && okc 210 33 k_210_33 && okc 210 67 k_210_67 && okc 210 69 k_210_69 && okc 210 84 k_210_84 && okc 210 124 k_210_124 && okc 210 130 k_210_130 && okc 210 132 k_210_132 && okc 210 161 k_210_161 && okc 210 163 k_210_163 && okc 210 198 k_210_198) = true := by decide +kernel
