/-! LINKED CODES: k_<method>_<label>, the instructions from a label to the next unconditional end; each is checked against the machine's decoding (printed by wip/whole/gen13.py) -/
-- 108: RavenSupperLaw.law([I)Z
def k_108_0 : List Instr := [.new 6, .dup, .invokeinterface 106 118, .astore 1, .new 7, .dup, .invokeinterface 107 119, .astore 2, .bipush (0), .istore 3, .iload 3, .aload 0, .arraylength, .bipush (5), .isub, .if_icmp .gt (1258), .aload 0, .iload 3, .saload, .bipush (63), .iand, .tableswitch 1252 (0) (32) #[180, 203, 236, 279, 322, 365, 388, 401, 414, 483, 496, 509, 542, 575, 608, 661, 694, 727, 760, 783, 826, 859, 912, 965, 1024, 1037, 1060, 1113, 1146, 1169, 1192, 1215, 1238]]
def k_108_18 : List Instr := [.iload 3, .aload 0, .arraylength, .bipush (5), .isub, .if_icmp .gt (1258), .aload 0, .iload 3, .saload, .bipush (63), .iand, .tableswitch 1252 (0) (32) #[180, 203, 236, 279, 322, 365, 388, 401, 414, 483, 496, 509, 542, 575, 608, 661, 694, 727, 760, 783, 826, 859, 912, 965, 1024, 1037, 1060, 1113, 1146, 1169, 1192, 1215, 1238]]
def k_108_180 : List Instr := [.aload 1, .aload 0, .iload 3, .bipush (1), .iadd, .saload, .invokeinterface 76 150, .aload 2, .aload 0, .iload 3, .bipush (1), .iadd, .saload, .invokeinterface 144 151, .if_icmp .eq (1252), .bipush (0), .freturn]
def k_108_203 : List Instr := [.aload 1, .aload 0, .iload 3, .bipush (1), .iadd, .saload, .aload 0, .iload 3, .bipush (2), .iadd, .saload, .invokeinterface 77 214, .aload 2, .aload 0, .iload 3, .bipush (1), .iadd, .saload, .aload 0, .iload 3, .bipush (2), .iadd, .saload, .invokeinterface 145 215, .if_icmp .eq (1252), .bipush (0), .freturn]
def k_108_236 : List Instr := [.aload 1, .aload 0, .iload 3, .bipush (1), .iadd, .saload, .aload 0, .iload 3, .bipush (2), .iadd, .saload, .aload 0, .iload 3, .bipush (3), .iadd, .saload, .invokeinterface 78 278, .aload 2, .aload 0, .iload 3, .bipush (1), .iadd, .saload, .aload 0, .iload 3, .bipush (2), .iadd, .saload, .aload 0, .iload 3, .bipush (3), .iadd, .saload, .invokeinterface 146 279, .if_icmp .eq (1252), .bipush (0), .freturn]
def k_108_279 : List Instr := [.aload 1, .aload 0, .iload 3, .bipush (1), .iadd, .saload, .aload 0, .iload 3, .bipush (2), .iadd, .saload, .aload 0, .iload 3, .bipush (3), .iadd, .saload, .invokeinterface 79 278, .aload 2, .aload 0, .iload 3, .bipush (1), .iadd, .saload, .aload 0, .iload 3, .bipush (2), .iadd, .saload, .aload 0, .iload 3, .bipush (3), .iadd, .saload, .invokeinterface 147 279, .if_icmp .eq (1252), .bipush (0), .freturn]
def k_108_322 : List Instr := [.aload 1, .aload 0, .iload 3, .bipush (1), .iadd, .saload, .aload 0, .iload 3, .bipush (2), .iadd, .saload, .aload 0, .iload 3, .bipush (3), .iadd, .saload, .invokeinterface 80 278, .aload 2, .aload 0, .iload 3, .bipush (1), .iadd, .saload, .aload 0, .iload 3, .bipush (2), .iadd, .saload, .aload 0, .iload 3, .bipush (3), .iadd, .saload, .invokeinterface 148 279, .if_icmp .eq (1252), .bipush (0), .freturn]
def k_108_365 : List Instr := [.aload 1, .aload 0, .iload 3, .bipush (1), .iadd, .saload, .invokeinterface 81 150, .aload 2, .aload 0, .iload 3, .bipush (1), .iadd, .saload, .invokeinterface 149 151, .if_icmp .eq (1252), .bipush (0), .freturn]
def k_108_388 : List Instr := [.aload 1, .invokeinterface 82 86, .aload 2, .invokeinterface 150 87, .if_icmp .eq (1252), .bipush (0), .freturn]
def k_108_401 : List Instr := [.aload 1, .invokeinterface 83 86, .aload 2, .invokeinterface 160 87, .if_icmp .eq (1252), .bipush (0), .freturn]
def k_108_414 : List Instr := [.aload 1, .aload 0, .iload 3, .bipush (1), .iadd, .saload, .aload 0, .iload 3, .bipush (2), .iadd, .saload, .aload 0, .iload 3, .bipush (3), .iadd, .saload, .aload 0, .iload 3, .bipush (4), .iadd, .saload, .ifCond .eq (442), .bipush (1), .goto (443)]
def k_108_442 : List Instr := [.bipush (0), .invokeinterface 84 342, .aload 2, .aload 0, .iload 3, .bipush (1), .iadd, .saload, .aload 0, .iload 3, .bipush (2), .iadd, .saload, .aload 0, .iload 3, .bipush (3), .iadd, .saload, .aload 0, .iload 3, .bipush (4), .iadd, .saload, .ifCond .eq (474), .bipush (1), .goto (475)]
def k_108_443 : List Instr := [.invokeinterface 84 342, .aload 2, .aload 0, .iload 3, .bipush (1), .iadd, .saload, .aload 0, .iload 3, .bipush (2), .iadd, .saload, .aload 0, .iload 3, .bipush (3), .iadd, .saload, .aload 0, .iload 3, .bipush (4), .iadd, .saload, .ifCond .eq (474), .bipush (1), .goto (475)]
def k_108_474 : List Instr := [.bipush (0), .invokeinterface 169 343, .if_icmp .eq (1252), .bipush (0), .freturn]
def k_108_475 : List Instr := [.invokeinterface 169 343, .if_icmp .eq (1252), .bipush (0), .freturn]
def k_108_483 : List Instr := [.aload 1, .invokeinterface 85 86, .aload 2, .invokeinterface 171 87, .if_icmp .eq (1252), .bipush (0), .freturn]
def k_108_496 : List Instr := [.aload 1, .invokeinterface 86 86, .aload 2, .invokeinterface 172 87, .if_icmp .eq (1252), .bipush (0), .freturn]
def k_108_509 : List Instr := [.aload 1, .aload 0, .iload 3, .bipush (1), .iadd, .saload, .aload 0, .iload 3, .bipush (2), .iadd, .saload, .invokeinterface 87 214, .aload 2, .aload 0, .iload 3, .bipush (1), .iadd, .saload, .aload 0, .iload 3, .bipush (2), .iadd, .saload, .invokeinterface 174 215, .if_icmp .eq (1252), .bipush (0), .freturn]
def k_108_542 : List Instr := [.aload 1, .aload 0, .iload 3, .bipush (1), .iadd, .saload, .aload 0, .iload 3, .bipush (2), .iadd, .saload, .invokeinterface 88 214, .aload 2, .aload 0, .iload 3, .bipush (1), .iadd, .saload, .aload 0, .iload 3, .bipush (2), .iadd, .saload, .invokeinterface 175 215, .if_icmp .eq (1252), .bipush (0), .freturn]
def k_108_575 : List Instr := [.aload 1, .aload 0, .iload 3, .bipush (1), .iadd, .saload, .aload 0, .iload 3, .bipush (2), .iadd, .saload, .invokeinterface 89 214, .aload 2, .aload 0, .iload 3, .bipush (1), .iadd, .saload, .aload 0, .iload 3, .bipush (2), .iadd, .saload, .invokeinterface 176 215, .if_icmp .eq (1252), .bipush (0), .freturn]
def k_108_608 : List Instr := [.aload 1, .aload 0, .iload 3, .bipush (1), .iadd, .saload, .aload 0, .iload 3, .bipush (2), .iadd, .saload, .aload 0, .iload 3, .bipush (3), .iadd, .saload, .aload 0, .iload 3, .bipush (4), .iadd, .saload, .invokeinterface 90 342, .aload 2, .aload 0, .iload 3, .bipush (1), .iadd, .saload, .aload 0, .iload 3, .bipush (2), .iadd, .saload, .aload 0, .iload 3, .bipush (3), .iadd, .saload, .aload 0, .iload 3, .bipush (4), .iadd, .saload, .invokeinterface 177 343, .if_icmp .eq (1252), .bipush (0), .freturn]
def k_108_661 : List Instr := [.aload 1, .aload 0, .iload 3, .bipush (1), .iadd, .saload, .aload 0, .iload 3, .bipush (2), .iadd, .saload, .invokeinterface 91 214, .aload 2, .aload 0, .iload 3, .bipush (1), .iadd, .saload, .aload 0, .iload 3, .bipush (2), .iadd, .saload, .invokeinterface 178 215, .if_icmp .eq (1252), .bipush (0), .freturn]
def k_108_694 : List Instr := [.aload 1, .aload 0, .iload 3, .bipush (1), .iadd, .saload, .aload 0, .iload 3, .bipush (2), .iadd, .saload, .invokeinterface 92 214, .aload 2, .aload 0, .iload 3, .bipush (1), .iadd, .saload, .aload 0, .iload 3, .bipush (2), .iadd, .saload, .invokeinterface 180 215, .if_icmp .eq (1252), .bipush (0), .freturn]
def k_108_727 : List Instr := [.aload 1, .aload 0, .iload 3, .bipush (1), .iadd, .saload, .aload 0, .iload 3, .bipush (2), .iadd, .saload, .invokeinterface 93 214, .aload 2, .aload 0, .iload 3, .bipush (1), .iadd, .saload, .aload 0, .iload 3, .bipush (2), .iadd, .saload, .invokeinterface 185 215, .if_icmp .eq (1252), .bipush (0), .freturn]
def k_108_760 : List Instr := [.aload 1, .aload 0, .iload 3, .bipush (1), .iadd, .saload, .invokeinterface 94 150, .aload 2, .aload 0, .iload 3, .bipush (1), .iadd, .saload, .invokeinterface 186 151, .if_icmp .eq (1252), .bipush (0), .freturn]
def k_108_783 : List Instr := [.aload 1, .aload 0, .iload 3, .bipush (1), .iadd, .saload, .aload 0, .iload 3, .bipush (2), .iadd, .saload, .aload 0, .iload 3, .bipush (3), .iadd, .saload, .invokeinterface 95 278, .aload 2, .aload 0, .iload 3, .bipush (1), .iadd, .saload, .aload 0, .iload 3, .bipush (2), .iadd, .saload, .aload 0, .iload 3, .bipush (3), .iadd, .saload, .invokeinterface 190 279, .if_icmp .eq (1252), .bipush (0), .freturn]
def k_108_826 : List Instr := [.aload 1, .aload 0, .iload 3, .bipush (1), .iadd, .saload, .aload 0, .iload 3, .bipush (2), .iadd, .saload, .invokeinterface 96 214, .aload 2, .aload 0, .iload 3, .bipush (1), .iadd, .saload, .aload 0, .iload 3, .bipush (2), .iadd, .saload, .invokeinterface 193 215, .if_icmp .eq (1252), .bipush (0), .freturn]
def k_108_859 : List Instr := [.aload 1, .aload 0, .iload 3, .bipush (1), .iadd, .saload, .aload 0, .iload 3, .bipush (2), .iadd, .saload, .aload 0, .iload 3, .bipush (3), .iadd, .saload, .aload 0, .iload 3, .bipush (4), .iadd, .saload, .invokeinterface 97 342, .aload 2, .aload 0, .iload 3, .bipush (1), .iadd, .saload, .aload 0, .iload 3, .bipush (2), .iadd, .saload, .aload 0, .iload 3, .bipush (3), .iadd, .saload, .aload 0, .iload 3, .bipush (4), .iadd, .saload, .invokeinterface 194 343, .if_icmp .eq (1252), .bipush (0), .freturn]
def k_108_912 : List Instr := [.aload 1, .aload 0, .iload 3, .bipush (1), .iadd, .saload, .aload 0, .iload 3, .bipush (2), .iadd, .saload, .aload 0, .iload 3, .bipush (3), .iadd, .saload, .aload 0, .iload 3, .bipush (4), .iadd, .saload, .invokeinterface 98 342, .aload 2, .aload 0, .iload 3, .bipush (1), .iadd, .saload, .aload 0, .iload 3, .bipush (2), .iadd, .saload, .aload 0, .iload 3, .bipush (3), .iadd, .saload, .aload 0, .iload 3, .bipush (4), .iadd, .saload, .invokeinterface 197 343, .if_icmp .eq (1252), .bipush (0), .freturn]
def k_108_965 : List Instr := [.aload 1, .aload 0, .iload 3, .bipush (1), .iadd, .saload, .aload 0, .iload 3, .bipush (2), .iadd, .saload, .aload 0, .iload 3, .bipush (3), .iadd, .saload, .ifCond .eq (988), .bipush (1), .goto (989)]
def k_108_988 : List Instr := [.bipush (0), .invokeinterface 99 278, .aload 2, .aload 0, .iload 3, .bipush (1), .iadd, .saload, .aload 0, .iload 3, .bipush (2), .iadd, .saload, .aload 0, .iload 3, .bipush (3), .iadd, .saload, .ifCond .eq (1015), .bipush (1), .goto (1016)]
def k_108_989 : List Instr := [.invokeinterface 99 278, .aload 2, .aload 0, .iload 3, .bipush (1), .iadd, .saload, .aload 0, .iload 3, .bipush (2), .iadd, .saload, .aload 0, .iload 3, .bipush (3), .iadd, .saload, .ifCond .eq (1015), .bipush (1), .goto (1016)]
def k_108_1015 : List Instr := [.bipush (0), .invokeinterface 198 279, .if_icmp .eq (1252), .bipush (0), .freturn]
def k_108_1016 : List Instr := [.invokeinterface 198 279, .if_icmp .eq (1252), .bipush (0), .freturn]
def k_108_1024 : List Instr := [.aload 1, .invokeinterface 109 86, .aload 2, .invokeinterface 199 87, .if_icmp .eq (1252), .bipush (0), .freturn]
def k_108_1037 : List Instr := [.aload 1, .aload 0, .iload 3, .bipush (1), .iadd, .saload, .invokeinterface 110 150, .aload 2, .aload 0, .iload 3, .bipush (1), .iadd, .saload, .invokeinterface 201 151, .if_icmp .eq (1252), .bipush (0), .freturn]
def k_108_1060 : List Instr := [.aload 1, .aload 0, .iload 3, .bipush (1), .iadd, .saload, .aload 0, .iload 3, .bipush (2), .iadd, .saload, .aload 0, .iload 3, .bipush (3), .iadd, .saload, .aload 0, .iload 3, .bipush (4), .iadd, .saload, .invokeinterface 111 342, .aload 2, .aload 0, .iload 3, .bipush (1), .iadd, .saload, .aload 0, .iload 3, .bipush (2), .iadd, .saload, .aload 0, .iload 3, .bipush (3), .iadd, .saload, .aload 0, .iload 3, .bipush (4), .iadd, .saload, .invokeinterface 202 343, .if_icmp .eq (1252), .bipush (0), .freturn]
def k_108_1113 : List Instr := [.aload 1, .aload 0, .iload 3, .bipush (1), .iadd, .saload, .aload 0, .iload 3, .bipush (2), .iadd, .saload, .invokeinterface 112 214, .aload 2, .aload 0, .iload 3, .bipush (1), .iadd, .saload, .aload 0, .iload 3, .bipush (2), .iadd, .saload, .invokeinterface 203 215, .if_icmp .eq (1252), .bipush (0), .freturn]
def k_108_1146 : List Instr := [.aload 1, .aload 0, .iload 3, .bipush (1), .iadd, .saload, .invokeinterface 113 150, .aload 2, .aload 0, .iload 3, .bipush (1), .iadd, .saload, .invokeinterface 204 151, .if_icmp .eq (1252), .bipush (0), .freturn]
def k_108_1169 : List Instr := [.aload 1, .aload 0, .iload 3, .bipush (1), .iadd, .saload, .invokeinterface 114 150, .aload 2, .aload 0, .iload 3, .bipush (1), .iadd, .saload, .invokeinterface 205 151, .if_icmp .eq (1252), .bipush (0), .freturn]
def k_108_1192 : List Instr := [.aload 1, .aload 0, .iload 3, .bipush (1), .iadd, .saload, .invokeinterface 115 150, .aload 2, .aload 0, .iload 3, .bipush (1), .iadd, .saload, .invokeinterface 206 151, .if_icmp .eq (1252), .bipush (0), .freturn]
def k_108_1215 : List Instr := [.aload 1, .aload 0, .iload 3, .bipush (1), .iadd, .saload, .invokeinterface 116 150, .aload 2, .aload 0, .iload 3, .bipush (1), .iadd, .saload, .invokeinterface 209 151, .if_icmp .eq (1252), .bipush (0), .freturn]
def k_108_1238 : List Instr := [.aload 1, .invokeinterface 117 86, .aload 2, .invokeinterface 210 87, .lcmp, .ifCond .eq (1252), .bipush (0), .freturn]
def k_108_1252 : List Instr := [.iinc 3 (5), .goto (18)]
def k_108_1258 : List Instr := [.bipush (1), .freturn]
theorem k_108_0_ok : okc 108 0 k_108_0 = true := by decide +kernel
theorem k_108_18_ok : okc 108 18 k_108_18 = true := by decide +kernel
theorem k_108_180_ok : okc 108 180 k_108_180 = true := by decide +kernel
theorem k_108_203_ok : okc 108 203 k_108_203 = true := by decide +kernel
theorem k_108_236_ok : okc 108 236 k_108_236 = true := by decide +kernel
theorem k_108_279_ok : okc 108 279 k_108_279 = true := by decide +kernel
theorem k_108_322_ok : okc 108 322 k_108_322 = true := by decide +kernel
theorem k_108_365_ok : okc 108 365 k_108_365 = true := by decide +kernel
theorem k_108_388_ok : okc 108 388 k_108_388 = true := by decide +kernel
theorem k_108_401_ok : okc 108 401 k_108_401 = true := by decide +kernel
theorem k_108_414_ok : okc 108 414 k_108_414 = true := by decide +kernel
theorem k_108_442_ok : okc 108 442 k_108_442 = true := by decide +kernel
theorem k_108_443_ok : okc 108 443 k_108_443 = true := by decide +kernel
theorem k_108_474_ok : okc 108 474 k_108_474 = true := by decide +kernel
theorem k_108_475_ok : okc 108 475 k_108_475 = true := by decide +kernel
theorem k_108_483_ok : okc 108 483 k_108_483 = true := by decide +kernel
theorem k_108_496_ok : okc 108 496 k_108_496 = true := by decide +kernel
theorem k_108_509_ok : okc 108 509 k_108_509 = true := by decide +kernel
theorem k_108_542_ok : okc 108 542 k_108_542 = true := by decide +kernel
theorem k_108_575_ok : okc 108 575 k_108_575 = true := by decide +kernel
theorem k_108_608_ok : okc 108 608 k_108_608 = true := by decide +kernel
theorem k_108_661_ok : okc 108 661 k_108_661 = true := by decide +kernel
theorem k_108_694_ok : okc 108 694 k_108_694 = true := by decide +kernel
theorem k_108_727_ok : okc 108 727 k_108_727 = true := by decide +kernel
theorem k_108_760_ok : okc 108 760 k_108_760 = true := by decide +kernel
theorem k_108_783_ok : okc 108 783 k_108_783 = true := by decide +kernel
theorem k_108_826_ok : okc 108 826 k_108_826 = true := by decide +kernel
theorem k_108_859_ok : okc 108 859 k_108_859 = true := by decide +kernel
theorem k_108_912_ok : okc 108 912 k_108_912 = true := by decide +kernel
theorem k_108_965_ok : okc 108 965 k_108_965 = true := by decide +kernel
theorem k_108_988_ok : okc 108 988 k_108_988 = true := by decide +kernel
theorem k_108_989_ok : okc 108 989 k_108_989 = true := by decide +kernel
theorem k_108_1015_ok : okc 108 1015 k_108_1015 = true := by decide +kernel
theorem k_108_1016_ok : okc 108 1016 k_108_1016 = true := by decide +kernel
theorem k_108_1024_ok : okc 108 1024 k_108_1024 = true := by decide +kernel
theorem k_108_1037_ok : okc 108 1037 k_108_1037 = true := by decide +kernel
theorem k_108_1060_ok : okc 108 1060 k_108_1060 = true := by decide +kernel
theorem k_108_1113_ok : okc 108 1113 k_108_1113 = true := by decide +kernel
theorem k_108_1146_ok : okc 108 1146 k_108_1146 = true := by decide +kernel
theorem k_108_1169_ok : okc 108 1169 k_108_1169 = true := by decide +kernel
theorem k_108_1192_ok : okc 108 1192 k_108_1192 = true := by decide +kernel
theorem k_108_1215_ok : okc 108 1215 k_108_1215 = true := by decide +kernel
theorem k_108_1238_ok : okc 108 1238 k_108_1238 = true := by decide +kernel
theorem k_108_1252_ok : okc 108 1252 k_108_1252 = true := by decide +kernel
theorem k_108_1258_ok : okc 108 1258 k_108_1258 = true := by decide +kernel
