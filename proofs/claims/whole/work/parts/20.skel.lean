/-! SKELETONS: World at o, Evening at e, Caws at c: shapes and references (printed by wip/whole/gen20.py) -/
def ES (n : Nat) (R : Nat → Nat → Option Nat) (e : Nat) : Prop := (e + 5 ≤ n) ∧ (SK e = (1, 0)) ∧ (SK (e + 1) = (8, 6)) ∧ (SK (e + 2) = (8, 2)) ∧ (SK (e + 3) = (8, 2)) ∧ (SK (e + 4) = (9, 2)) ∧ (R e 1 = some (e + 1)) ∧ (R e 2 = some (e + 2)) ∧ (R e 3 = some (e + 3)) ∧ (R e 4 = some (e + 4))
theorem es_l0 {n : Nat} {R : Nat → Nat → Option Nat} {e : Nat} (h : ES n R e) : e < n := by have := h.1; omega
theorem es_l1 {n : Nat} {R : Nat → Nat → Option Nat} {e : Nat} (h : ES n R e) : (e + 1) < n := by have := h.1; omega
theorem es_l2 {n : Nat} {R : Nat → Nat → Option Nat} {e : Nat} (h : ES n R e) : (e + 2) < n := by have := h.1; omega
theorem es_l3 {n : Nat} {R : Nat → Nat → Option Nat} {e : Nat} (h : ES n R e) : (e + 3) < n := by have := h.1; omega
theorem es_l4 {n : Nat} {R : Nat → Nat → Option Nat} {e : Nat} (h : ES n R e) : (e + 4) < n := by have := h.1; omega
theorem es_s0 {n : Nat} {R : Nat → Nat → Option Nat} {e : Nat} (h : ES n R e) : SK e = (1, 0) := h.2.1
theorem es_s1 {n : Nat} {R : Nat → Nat → Option Nat} {e : Nat} (h : ES n R e) : SK (e + 1) = (8, 6) := h.2.2.1
theorem es_s2 {n : Nat} {R : Nat → Nat → Option Nat} {e : Nat} (h : ES n R e) : SK (e + 2) = (8, 2) := h.2.2.2.1
theorem es_s3 {n : Nat} {R : Nat → Nat → Option Nat} {e : Nat} (h : ES n R e) : SK (e + 3) = (8, 2) := h.2.2.2.2.1
theorem es_s4 {n : Nat} {R : Nat → Nat → Option Nat} {e : Nat} (h : ES n R e) : SK (e + 4) = (9, 2) := h.2.2.2.2.2.1
theorem es_r0_1 {n : Nat} {R : Nat → Nat → Option Nat} {e : Nat} (h : ES n R e) : R e 1 = some (e + 1) := h.2.2.2.2.2.2.1
theorem es_r0_2 {n : Nat} {R : Nat → Nat → Option Nat} {e : Nat} (h : ES n R e) : R e 2 = some (e + 2) := h.2.2.2.2.2.2.2.1
theorem es_r0_3 {n : Nat} {R : Nat → Nat → Option Nat} {e : Nat} (h : ES n R e) : R e 3 = some (e + 3) := h.2.2.2.2.2.2.2.2.1
theorem es_r0_4 {n : Nat} {R : Nat → Nat → Option Nat} {e : Nat} (h : ES n R e) : R e 4 = some (e + 4) := h.2.2.2.2.2.2.2.2.2
def CS (n : Nat) (R : Nat → Nat → Option Nat) (c : Nat) : Prop := (c + 4 ≤ n) ∧ (SK c = (0, 0)) ∧ (SK (c + 1) = (8, 8)) ∧ (SK (c + 2) = (8, 8)) ∧ (SK (c + 3) = (9, 8)) ∧ (R c 1 = some (c + 1)) ∧ (R c 2 = some (c + 2)) ∧ (R c 3 = some (c + 3))
theorem cs_l0 {n : Nat} {R : Nat → Nat → Option Nat} {c : Nat} (h : CS n R c) : c < n := by have := h.1; omega
theorem cs_l1 {n : Nat} {R : Nat → Nat → Option Nat} {c : Nat} (h : CS n R c) : (c + 1) < n := by have := h.1; omega
theorem cs_l2 {n : Nat} {R : Nat → Nat → Option Nat} {c : Nat} (h : CS n R c) : (c + 2) < n := by have := h.1; omega
theorem cs_l3 {n : Nat} {R : Nat → Nat → Option Nat} {c : Nat} (h : CS n R c) : (c + 3) < n := by have := h.1; omega
theorem cs_s0 {n : Nat} {R : Nat → Nat → Option Nat} {c : Nat} (h : CS n R c) : SK c = (0, 0) := h.2.1
theorem cs_s1 {n : Nat} {R : Nat → Nat → Option Nat} {c : Nat} (h : CS n R c) : SK (c + 1) = (8, 8) := h.2.2.1
theorem cs_s2 {n : Nat} {R : Nat → Nat → Option Nat} {c : Nat} (h : CS n R c) : SK (c + 2) = (8, 8) := h.2.2.2.1
theorem cs_s3 {n : Nat} {R : Nat → Nat → Option Nat} {c : Nat} (h : CS n R c) : SK (c + 3) = (9, 8) := h.2.2.2.2.1
theorem cs_r0_1 {n : Nat} {R : Nat → Nat → Option Nat} {c : Nat} (h : CS n R c) : R c 1 = some (c + 1) := h.2.2.2.2.2.1
theorem cs_r0_2 {n : Nat} {R : Nat → Nat → Option Nat} {c : Nat} (h : CS n R c) : R c 2 = some (c + 2) := h.2.2.2.2.2.2.1
theorem cs_r0_3 {n : Nat} {R : Nat → Nat → Option Nat} {c : Nat} (h : CS n R c) : R c 3 = some (c + 3) := h.2.2.2.2.2.2.2
def WT (n : Nat) (R : Nat → Nat → Option Nat) (o : Nat) : Prop := (o + 23 ≤ n) ∧ (SK o = (5, 0)) ∧ (SK (o + 1) = (8, 6)) ∧ (SK (o + 2) = (8, 6)) ∧ (SK (o + 3) = (13, 6)) ∧ (SK (o + 4) = (8, 6)) ∧ (SK (o + 5) = (8, 6)) ∧ (SK (o + 6) = (8, 6)) ∧ (SK (o + 7) = (8, 6)) ∧ (SK (o + 8) = (8, 6)) ∧ (SK (o + 9) = (8, 6)) ∧ (SK (o + 10) = (8, 6)) ∧ (SK (o + 11) = (8, 2)) ∧ (SK (o + 12) = (8, 2)) ∧ (SK (o + 13) = (0, 0)) ∧ (SK (o + 14) = (8, 8)) ∧ (SK (o + 15) = (8, 8)) ∧ (SK (o + 16) = (9, 8)) ∧ (SK (o + 17) = (1, 0)) ∧ (SK (o + 18) = (8, 6)) ∧ (SK (o + 19) = (8, 2)) ∧ (SK (o + 20) = (8, 2)) ∧ (SK (o + 21) = (9, 2)) ∧ (SK (o + 22) = (12, 8)) ∧ (R o 1 = some (o + 1)) ∧ (R o 2 = some (o + 2)) ∧ (R o 3 = some (o + 3)) ∧ (R o 4 = some (o + 10)) ∧ (R o 5 = some (o + 11)) ∧ (R o 6 = some (o + 12)) ∧ (R o 7 = some (o + 13)) ∧ (R o 8 = some (o + 17)) ∧ (R o 9 = some (o + 22)) ∧ (R (o + 3) 0 = some (o + 4)) ∧ (R (o + 3) 1 = some (o + 5)) ∧ (R (o + 3) 2 = some (o + 6)) ∧ (R (o + 3) 3 = some (o + 7)) ∧ (R (o + 3) 4 = some (o + 8)) ∧ (R (o + 3) 5 = some (o + 9)) ∧ (R (o + 13) 1 = some (o + 14)) ∧ (R (o + 13) 2 = some (o + 15)) ∧ (R (o + 13) 3 = some (o + 16)) ∧ (R (o + 17) 1 = some (o + 18)) ∧ (R (o + 17) 2 = some (o + 19)) ∧ (R (o + 17) 3 = some (o + 20)) ∧ (R (o + 17) 4 = some (o + 21)) ∧ (R (o + 22) 0 = some (o + 23)) ∧ (R (o + 22) 1 = some (o + 28)) ∧ (R (o + 22) 2 = some (o + 33)) ∧ (R (o + 22) 3 = some (o + 38)) ∧ (R (o + 22) 4 = some (o + 43)) ∧ (R (o + 22) 5 = some (o + 48)) ∧ (R (o + 22) 6 = some (o + 53)) ∧ (R (o + 22) 7 = some (o + 58))
theorem wt_l0 {n : Nat} {R : Nat → Nat → Option Nat} {o : Nat} (h : WT n R o) : o < n := by have := h.1; omega
theorem wt_l1 {n : Nat} {R : Nat → Nat → Option Nat} {o : Nat} (h : WT n R o) : (o + 1) < n := by have := h.1; omega
theorem wt_l2 {n : Nat} {R : Nat → Nat → Option Nat} {o : Nat} (h : WT n R o) : (o + 2) < n := by have := h.1; omega
theorem wt_l3 {n : Nat} {R : Nat → Nat → Option Nat} {o : Nat} (h : WT n R o) : (o + 3) < n := by have := h.1; omega
theorem wt_l4 {n : Nat} {R : Nat → Nat → Option Nat} {o : Nat} (h : WT n R o) : (o + 4) < n := by have := h.1; omega
theorem wt_l5 {n : Nat} {R : Nat → Nat → Option Nat} {o : Nat} (h : WT n R o) : (o + 5) < n := by have := h.1; omega
theorem wt_l6 {n : Nat} {R : Nat → Nat → Option Nat} {o : Nat} (h : WT n R o) : (o + 6) < n := by have := h.1; omega
theorem wt_l7 {n : Nat} {R : Nat → Nat → Option Nat} {o : Nat} (h : WT n R o) : (o + 7) < n := by have := h.1; omega
theorem wt_l8 {n : Nat} {R : Nat → Nat → Option Nat} {o : Nat} (h : WT n R o) : (o + 8) < n := by have := h.1; omega
theorem wt_l9 {n : Nat} {R : Nat → Nat → Option Nat} {o : Nat} (h : WT n R o) : (o + 9) < n := by have := h.1; omega
theorem wt_l10 {n : Nat} {R : Nat → Nat → Option Nat} {o : Nat} (h : WT n R o) : (o + 10) < n := by have := h.1; omega
theorem wt_l11 {n : Nat} {R : Nat → Nat → Option Nat} {o : Nat} (h : WT n R o) : (o + 11) < n := by have := h.1; omega
theorem wt_l12 {n : Nat} {R : Nat → Nat → Option Nat} {o : Nat} (h : WT n R o) : (o + 12) < n := by have := h.1; omega
theorem wt_l13 {n : Nat} {R : Nat → Nat → Option Nat} {o : Nat} (h : WT n R o) : (o + 13) < n := by have := h.1; omega
theorem wt_l14 {n : Nat} {R : Nat → Nat → Option Nat} {o : Nat} (h : WT n R o) : (o + 14) < n := by have := h.1; omega
theorem wt_l15 {n : Nat} {R : Nat → Nat → Option Nat} {o : Nat} (h : WT n R o) : (o + 15) < n := by have := h.1; omega
theorem wt_l16 {n : Nat} {R : Nat → Nat → Option Nat} {o : Nat} (h : WT n R o) : (o + 16) < n := by have := h.1; omega
theorem wt_l17 {n : Nat} {R : Nat → Nat → Option Nat} {o : Nat} (h : WT n R o) : (o + 17) < n := by have := h.1; omega
theorem wt_l18 {n : Nat} {R : Nat → Nat → Option Nat} {o : Nat} (h : WT n R o) : (o + 18) < n := by have := h.1; omega
theorem wt_l19 {n : Nat} {R : Nat → Nat → Option Nat} {o : Nat} (h : WT n R o) : (o + 19) < n := by have := h.1; omega
theorem wt_l20 {n : Nat} {R : Nat → Nat → Option Nat} {o : Nat} (h : WT n R o) : (o + 20) < n := by have := h.1; omega
theorem wt_l21 {n : Nat} {R : Nat → Nat → Option Nat} {o : Nat} (h : WT n R o) : (o + 21) < n := by have := h.1; omega
theorem wt_l22 {n : Nat} {R : Nat → Nat → Option Nat} {o : Nat} (h : WT n R o) : (o + 22) < n := by have := h.1; omega
theorem wt_s0 {n : Nat} {R : Nat → Nat → Option Nat} {o : Nat} (h : WT n R o) : SK o = (5, 0) := h.2.1
theorem wt_s1 {n : Nat} {R : Nat → Nat → Option Nat} {o : Nat} (h : WT n R o) : SK (o + 1) = (8, 6) := h.2.2.1
theorem wt_s2 {n : Nat} {R : Nat → Nat → Option Nat} {o : Nat} (h : WT n R o) : SK (o + 2) = (8, 6) := h.2.2.2.1
theorem wt_s3 {n : Nat} {R : Nat → Nat → Option Nat} {o : Nat} (h : WT n R o) : SK (o + 3) = (13, 6) := h.2.2.2.2.1
theorem wt_s4 {n : Nat} {R : Nat → Nat → Option Nat} {o : Nat} (h : WT n R o) : SK (o + 4) = (8, 6) := h.2.2.2.2.2.1
theorem wt_s5 {n : Nat} {R : Nat → Nat → Option Nat} {o : Nat} (h : WT n R o) : SK (o + 5) = (8, 6) := h.2.2.2.2.2.2.1
theorem wt_s6 {n : Nat} {R : Nat → Nat → Option Nat} {o : Nat} (h : WT n R o) : SK (o + 6) = (8, 6) := h.2.2.2.2.2.2.2.1
theorem wt_s7 {n : Nat} {R : Nat → Nat → Option Nat} {o : Nat} (h : WT n R o) : SK (o + 7) = (8, 6) := h.2.2.2.2.2.2.2.2.1
theorem wt_s8 {n : Nat} {R : Nat → Nat → Option Nat} {o : Nat} (h : WT n R o) : SK (o + 8) = (8, 6) := h.2.2.2.2.2.2.2.2.2.1
theorem wt_s9 {n : Nat} {R : Nat → Nat → Option Nat} {o : Nat} (h : WT n R o) : SK (o + 9) = (8, 6) := h.2.2.2.2.2.2.2.2.2.2.1
theorem wt_s10 {n : Nat} {R : Nat → Nat → Option Nat} {o : Nat} (h : WT n R o) : SK (o + 10) = (8, 6) := h.2.2.2.2.2.2.2.2.2.2.2.1
theorem wt_s11 {n : Nat} {R : Nat → Nat → Option Nat} {o : Nat} (h : WT n R o) : SK (o + 11) = (8, 2) := h.2.2.2.2.2.2.2.2.2.2.2.2.1
theorem wt_s12 {n : Nat} {R : Nat → Nat → Option Nat} {o : Nat} (h : WT n R o) : SK (o + 12) = (8, 2) := h.2.2.2.2.2.2.2.2.2.2.2.2.2.1
theorem wt_s13 {n : Nat} {R : Nat → Nat → Option Nat} {o : Nat} (h : WT n R o) : SK (o + 13) = (0, 0) := h.2.2.2.2.2.2.2.2.2.2.2.2.2.2.1
theorem wt_s14 {n : Nat} {R : Nat → Nat → Option Nat} {o : Nat} (h : WT n R o) : SK (o + 14) = (8, 8) := h.2.2.2.2.2.2.2.2.2.2.2.2.2.2.2.1
theorem wt_s15 {n : Nat} {R : Nat → Nat → Option Nat} {o : Nat} (h : WT n R o) : SK (o + 15) = (8, 8) := h.2.2.2.2.2.2.2.2.2.2.2.2.2.2.2.2.1
theorem wt_s16 {n : Nat} {R : Nat → Nat → Option Nat} {o : Nat} (h : WT n R o) : SK (o + 16) = (9, 8) := h.2.2.2.2.2.2.2.2.2.2.2.2.2.2.2.2.2.1
theorem wt_s17 {n : Nat} {R : Nat → Nat → Option Nat} {o : Nat} (h : WT n R o) : SK (o + 17) = (1, 0) := h.2.2.2.2.2.2.2.2.2.2.2.2.2.2.2.2.2.2.1
theorem wt_s18 {n : Nat} {R : Nat → Nat → Option Nat} {o : Nat} (h : WT n R o) : SK (o + 18) = (8, 6) := h.2.2.2.2.2.2.2.2.2.2.2.2.2.2.2.2.2.2.2.1
theorem wt_s19 {n : Nat} {R : Nat → Nat → Option Nat} {o : Nat} (h : WT n R o) : SK (o + 19) = (8, 2) := h.2.2.2.2.2.2.2.2.2.2.2.2.2.2.2.2.2.2.2.2.1
theorem wt_s20 {n : Nat} {R : Nat → Nat → Option Nat} {o : Nat} (h : WT n R o) : SK (o + 20) = (8, 2) := h.2.2.2.2.2.2.2.2.2.2.2.2.2.2.2.2.2.2.2.2.2.1
theorem wt_s21 {n : Nat} {R : Nat → Nat → Option Nat} {o : Nat} (h : WT n R o) : SK (o + 21) = (9, 2) := h.2.2.2.2.2.2.2.2.2.2.2.2.2.2.2.2.2.2.2.2.2.2.1
theorem wt_s22 {n : Nat} {R : Nat → Nat → Option Nat} {o : Nat} (h : WT n R o) : SK (o + 22) = (12, 8) := h.2.2.2.2.2.2.2.2.2.2.2.2.2.2.2.2.2.2.2.2.2.2.2.1
theorem wt_r0_1 {n : Nat} {R : Nat → Nat → Option Nat} {o : Nat} (h : WT n R o) : R o 1 = some (o + 1) := h.2.2.2.2.2.2.2.2.2.2.2.2.2.2.2.2.2.2.2.2.2.2.2.2.1
theorem wt_r0_2 {n : Nat} {R : Nat → Nat → Option Nat} {o : Nat} (h : WT n R o) : R o 2 = some (o + 2) := h.2.2.2.2.2.2.2.2.2.2.2.2.2.2.2.2.2.2.2.2.2.2.2.2.2.1
theorem wt_r0_3 {n : Nat} {R : Nat → Nat → Option Nat} {o : Nat} (h : WT n R o) : R o 3 = some (o + 3) := h.2.2.2.2.2.2.2.2.2.2.2.2.2.2.2.2.2.2.2.2.2.2.2.2.2.2.1
theorem wt_r0_4 {n : Nat} {R : Nat → Nat → Option Nat} {o : Nat} (h : WT n R o) : R o 4 = some (o + 10) := h.2.2.2.2.2.2.2.2.2.2.2.2.2.2.2.2.2.2.2.2.2.2.2.2.2.2.2.1
theorem wt_r0_5 {n : Nat} {R : Nat → Nat → Option Nat} {o : Nat} (h : WT n R o) : R o 5 = some (o + 11) := h.2.2.2.2.2.2.2.2.2.2.2.2.2.2.2.2.2.2.2.2.2.2.2.2.2.2.2.2.1
theorem wt_r0_6 {n : Nat} {R : Nat → Nat → Option Nat} {o : Nat} (h : WT n R o) : R o 6 = some (o + 12) := h.2.2.2.2.2.2.2.2.2.2.2.2.2.2.2.2.2.2.2.2.2.2.2.2.2.2.2.2.2.1
theorem wt_r0_7 {n : Nat} {R : Nat → Nat → Option Nat} {o : Nat} (h : WT n R o) : R o 7 = some (o + 13) := h.2.2.2.2.2.2.2.2.2.2.2.2.2.2.2.2.2.2.2.2.2.2.2.2.2.2.2.2.2.2.1
theorem wt_r0_8 {n : Nat} {R : Nat → Nat → Option Nat} {o : Nat} (h : WT n R o) : R o 8 = some (o + 17) := h.2.2.2.2.2.2.2.2.2.2.2.2.2.2.2.2.2.2.2.2.2.2.2.2.2.2.2.2.2.2.2.1
theorem wt_r0_9 {n : Nat} {R : Nat → Nat → Option Nat} {o : Nat} (h : WT n R o) : R o 9 = some (o + 22) := h.2.2.2.2.2.2.2.2.2.2.2.2.2.2.2.2.2.2.2.2.2.2.2.2.2.2.2.2.2.2.2.2.1
theorem wt_r3_0 {n : Nat} {R : Nat → Nat → Option Nat} {o : Nat} (h : WT n R o) : R (o + 3) 0 = some (o + 4) := h.2.2.2.2.2.2.2.2.2.2.2.2.2.2.2.2.2.2.2.2.2.2.2.2.2.2.2.2.2.2.2.2.2.1
theorem wt_r3_1 {n : Nat} {R : Nat → Nat → Option Nat} {o : Nat} (h : WT n R o) : R (o + 3) 1 = some (o + 5) := h.2.2.2.2.2.2.2.2.2.2.2.2.2.2.2.2.2.2.2.2.2.2.2.2.2.2.2.2.2.2.2.2.2.2.1
theorem wt_r3_2 {n : Nat} {R : Nat → Nat → Option Nat} {o : Nat} (h : WT n R o) : R (o + 3) 2 = some (o + 6) := h.2.2.2.2.2.2.2.2.2.2.2.2.2.2.2.2.2.2.2.2.2.2.2.2.2.2.2.2.2.2.2.2.2.2.2.1
theorem wt_r3_3 {n : Nat} {R : Nat → Nat → Option Nat} {o : Nat} (h : WT n R o) : R (o + 3) 3 = some (o + 7) := h.2.2.2.2.2.2.2.2.2.2.2.2.2.2.2.2.2.2.2.2.2.2.2.2.2.2.2.2.2.2.2.2.2.2.2.2.1
theorem wt_r3_4 {n : Nat} {R : Nat → Nat → Option Nat} {o : Nat} (h : WT n R o) : R (o + 3) 4 = some (o + 8) := h.2.2.2.2.2.2.2.2.2.2.2.2.2.2.2.2.2.2.2.2.2.2.2.2.2.2.2.2.2.2.2.2.2.2.2.2.2.1
theorem wt_r3_5 {n : Nat} {R : Nat → Nat → Option Nat} {o : Nat} (h : WT n R o) : R (o + 3) 5 = some (o + 9) := h.2.2.2.2.2.2.2.2.2.2.2.2.2.2.2.2.2.2.2.2.2.2.2.2.2.2.2.2.2.2.2.2.2.2.2.2.2.2.1
theorem wt_r13_1 {n : Nat} {R : Nat → Nat → Option Nat} {o : Nat} (h : WT n R o) : R (o + 13) 1 = some (o + 14) := h.2.2.2.2.2.2.2.2.2.2.2.2.2.2.2.2.2.2.2.2.2.2.2.2.2.2.2.2.2.2.2.2.2.2.2.2.2.2.2.1
theorem wt_r13_2 {n : Nat} {R : Nat → Nat → Option Nat} {o : Nat} (h : WT n R o) : R (o + 13) 2 = some (o + 15) := h.2.2.2.2.2.2.2.2.2.2.2.2.2.2.2.2.2.2.2.2.2.2.2.2.2.2.2.2.2.2.2.2.2.2.2.2.2.2.2.2.1
theorem wt_r13_3 {n : Nat} {R : Nat → Nat → Option Nat} {o : Nat} (h : WT n R o) : R (o + 13) 3 = some (o + 16) := h.2.2.2.2.2.2.2.2.2.2.2.2.2.2.2.2.2.2.2.2.2.2.2.2.2.2.2.2.2.2.2.2.2.2.2.2.2.2.2.2.2.1
theorem wt_r17_1 {n : Nat} {R : Nat → Nat → Option Nat} {o : Nat} (h : WT n R o) : R (o + 17) 1 = some (o + 18) := h.2.2.2.2.2.2.2.2.2.2.2.2.2.2.2.2.2.2.2.2.2.2.2.2.2.2.2.2.2.2.2.2.2.2.2.2.2.2.2.2.2.2.1
theorem wt_r17_2 {n : Nat} {R : Nat → Nat → Option Nat} {o : Nat} (h : WT n R o) : R (o + 17) 2 = some (o + 19) := h.2.2.2.2.2.2.2.2.2.2.2.2.2.2.2.2.2.2.2.2.2.2.2.2.2.2.2.2.2.2.2.2.2.2.2.2.2.2.2.2.2.2.2.1
theorem wt_r17_3 {n : Nat} {R : Nat → Nat → Option Nat} {o : Nat} (h : WT n R o) : R (o + 17) 3 = some (o + 20) := h.2.2.2.2.2.2.2.2.2.2.2.2.2.2.2.2.2.2.2.2.2.2.2.2.2.2.2.2.2.2.2.2.2.2.2.2.2.2.2.2.2.2.2.2.1
theorem wt_r17_4 {n : Nat} {R : Nat → Nat → Option Nat} {o : Nat} (h : WT n R o) : R (o + 17) 4 = some (o + 21) := h.2.2.2.2.2.2.2.2.2.2.2.2.2.2.2.2.2.2.2.2.2.2.2.2.2.2.2.2.2.2.2.2.2.2.2.2.2.2.2.2.2.2.2.2.2.1
theorem wt_r22_0 {n : Nat} {R : Nat → Nat → Option Nat} {o : Nat} (h : WT n R o) : R (o + 22) 0 = some (o + 23) := h.2.2.2.2.2.2.2.2.2.2.2.2.2.2.2.2.2.2.2.2.2.2.2.2.2.2.2.2.2.2.2.2.2.2.2.2.2.2.2.2.2.2.2.2.2.2.1
theorem wt_r22_1 {n : Nat} {R : Nat → Nat → Option Nat} {o : Nat} (h : WT n R o) : R (o + 22) 1 = some (o + 28) := h.2.2.2.2.2.2.2.2.2.2.2.2.2.2.2.2.2.2.2.2.2.2.2.2.2.2.2.2.2.2.2.2.2.2.2.2.2.2.2.2.2.2.2.2.2.2.2.1
theorem wt_r22_2 {n : Nat} {R : Nat → Nat → Option Nat} {o : Nat} (h : WT n R o) : R (o + 22) 2 = some (o + 33) := h.2.2.2.2.2.2.2.2.2.2.2.2.2.2.2.2.2.2.2.2.2.2.2.2.2.2.2.2.2.2.2.2.2.2.2.2.2.2.2.2.2.2.2.2.2.2.2.2.1
theorem wt_r22_3 {n : Nat} {R : Nat → Nat → Option Nat} {o : Nat} (h : WT n R o) : R (o + 22) 3 = some (o + 38) := h.2.2.2.2.2.2.2.2.2.2.2.2.2.2.2.2.2.2.2.2.2.2.2.2.2.2.2.2.2.2.2.2.2.2.2.2.2.2.2.2.2.2.2.2.2.2.2.2.2.1
theorem wt_r22_4 {n : Nat} {R : Nat → Nat → Option Nat} {o : Nat} (h : WT n R o) : R (o + 22) 4 = some (o + 43) := h.2.2.2.2.2.2.2.2.2.2.2.2.2.2.2.2.2.2.2.2.2.2.2.2.2.2.2.2.2.2.2.2.2.2.2.2.2.2.2.2.2.2.2.2.2.2.2.2.2.2.1
theorem wt_r22_5 {n : Nat} {R : Nat → Nat → Option Nat} {o : Nat} (h : WT n R o) : R (o + 22) 5 = some (o + 48) := h.2.2.2.2.2.2.2.2.2.2.2.2.2.2.2.2.2.2.2.2.2.2.2.2.2.2.2.2.2.2.2.2.2.2.2.2.2.2.2.2.2.2.2.2.2.2.2.2.2.2.2.1
theorem wt_r22_6 {n : Nat} {R : Nat → Nat → Option Nat} {o : Nat} (h : WT n R o) : R (o + 22) 6 = some (o + 53) := h.2.2.2.2.2.2.2.2.2.2.2.2.2.2.2.2.2.2.2.2.2.2.2.2.2.2.2.2.2.2.2.2.2.2.2.2.2.2.2.2.2.2.2.2.2.2.2.2.2.2.2.2.1
theorem wt_r22_7 {n : Nat} {R : Nat → Nat → Option Nat} {o : Nat} (h : WT n R o) : R (o + 22) 7 = some (o + 58) := h.2.2.2.2.2.2.2.2.2.2.2.2.2.2.2.2.2.2.2.2.2.2.2.2.2.2.2.2.2.2.2.2.2.2.2.2.2.2.2.2.2.2.2.2.2.2.2.2.2.2.2.2.2
def WS (n : Nat) (R : Nat → Nat → Option Nat) (o : Nat) : Prop := WT n R o ∧ o + 63 ≤ n ∧ ∀ i, i < 8 → ES n R (o + 23 + 5 * i)
theorem wt_es {n : Nat} {R : Nat → Nat → Option Nat} {o : Nat} (h : WT n R o) : ES n R (o + 17) := ⟨by have := wt_l22 h; omega, wt_s17 h, wt_s18 h, wt_s19 h, wt_s20 h, wt_s21 h, wt_r17_1 h, wt_r17_2 h, wt_r17_3 h, wt_r17_4 h⟩
theorem wt_cs {n : Nat} {R : Nat → Nat → Option Nat} {o : Nat} (h : WT n R o) : CS n R (o + 13) := ⟨by have := wt_l22 h; omega, wt_s13 h, wt_s14 h, wt_s15 h, wt_s16 h, wt_r13_1 h, wt_r13_2 h, wt_r13_3 h⟩
/-- references behind the making: 0 is none (nothing refers to cell 0) -/
def rtL_0 : List (List Nat) := [[1, 64, 127, 254, 255, 258, 265, 267], [0, 2, 3, 4, 11, 12, 13, 14, 18, 23], [], [], [5, 6, 7, 8, 9, 10], [], [], [], [], [], [], [], [], [], [0, 15, 16, 17], [], [], [], [0, 19, 20, 21, 22], [], [], [], [], [24, 29, 34, 39, 44, 49, 54, 59], [0, 25, 26, 27, 28], [], [], [], [], [0, 30, 31, 32, 33], [], [], [], [], [0, 35, 36, 37, 38], [], [], [], [], [0, 40, 41, 42, 43], [], [], [], [], [0, 45, 46, 47, 48], [], [], [], [], [0, 50, 51, 52, 53], [], [], [], [], [0, 55, 56, 57, 58], [], [], [], [], [0, 60, 61, 62, 63], [], [], [], [], [0, 65, 66, 67, 74, 75, 76, 77, 81, 86], [], [], [68, 69, 70, 71, 72, 73], [], []]
def rtL_1 : List (List Nat) := [[], [], [], [], [], [], [], [0, 78, 79, 80], [], [], [], [0, 82, 83, 84, 85], [], [], [], [], [87, 92, 97, 102, 107, 112, 117, 122], [0, 88, 89, 90, 91], [], [], [], [], [0, 93, 94, 95, 96], [], [], [], [], [0, 98, 99, 100, 101], [], [], [], [], [0, 103, 104, 105, 106], [], [], [], [], [0, 108, 109, 110, 111], [], [], [], [], [0, 113, 114, 115, 116], [], [], [], [], [0, 118, 119, 120, 121], [], [], [], [], [0, 123, 124, 125, 126], [], [], [], [], [128, 191], [0, 129, 130, 131, 138, 139, 140, 141, 145, 150], [], [], [132, 133, 134, 135, 136, 137], [], [], [], [], [], [], [], []]
def rtL_2 : List (List Nat) := [[], [0, 142, 143, 144], [], [], [], [0, 146, 147, 148, 149], [], [], [], [], [151, 156, 161, 166, 171, 176, 181, 186], [0, 152, 153, 154, 155], [], [], [], [], [0, 157, 158, 159, 160], [], [], [], [], [0, 162, 163, 164, 165], [], [], [], [], [0, 167, 168, 169, 170], [], [], [], [], [0, 172, 173, 174, 175], [], [], [], [], [0, 177, 178, 179, 180], [], [], [], [], [0, 182, 183, 184, 185], [], [], [], [], [0, 187, 188, 189, 190], [], [], [], [], [0, 192, 193, 194, 201, 202, 203, 204, 208, 213], [], [], [195, 196, 197, 198, 199, 200], [], [], [], [], [], [], [], [], [], [0, 205, 206, 207], [], [], [], [0, 209, 210, 211, 212], []]
def rtL_3 : List (List Nat) := [[], [], [], [214, 219, 224, 229, 234, 239, 244, 249], [0, 215, 216, 217, 218], [], [], [], [], [0, 220, 221, 222, 223], [], [], [], [], [0, 225, 226, 227, 228], [], [], [], [], [0, 230, 231, 232, 233], [], [], [], [], [0, 235, 236, 237, 238], [], [], [], [], [0, 240, 241, 242, 243], [], [], [], [], [0, 245, 246, 247, 248], [], [], [], [], [0, 250, 251, 252, 253], [], [], [], [], [], [256, 0, 0, 0, 257], [], [], [259, 260, 263, 264], [], [261, 262], [], [], [], [], [266], [], [], [269, 270, 271, 272, 273, 274, 0, 275, 276, 0, 0, 0, 0, 277], [], [], [], [], [], [], [], [], []]
def rtL : List (List Nat) := rtL_0 ++ (rtL_1 ++ (rtL_2 ++ rtL_3))
def RT (a j : Nat) : Option Nat := match (rtL.getD a []).getD j 0 with
  | 0 => none
  | t + 1 => some (t + 1)
theorem wt_now : WT 278 RT 1 := by
  unfold WT
  repeat' apply And.intro
  all_goals decide +kernel
theorem ws_now : WS 278 RT 1 := ⟨wt_now, by decide, fun i hi => by
  unfold ES
  have : i = 0 ∨ i = 1 ∨ i = 2 ∨ i = 3 ∨ i = 4 ∨ i = 5 ∨ i = 6 ∨ i = 7 := by omega
  rcases this with rfl | rfl | rfl | rfl | rfl | rfl | rfl | rfl <;> (repeat' apply And.intro) <;> decide +kernel⟩
theorem wt_spare : WT 278 RT 64 := by
  unfold WT
  repeat' apply And.intro
  all_goals decide +kernel
theorem ws_spare : WS 278 RT 64 := ⟨wt_spare, by decide, fun i hi => by
  unfold ES
  have : i = 0 ∨ i = 1 ∨ i = 2 ∨ i = 3 ∨ i = 4 ∨ i = 5 ∨ i = 6 ∨ i = 7 := by omega
  rcases this with rfl | rfl | rfl | rfl | rfl | rfl | rfl | rfl <;> (repeat' apply And.intro) <;> decide +kernel⟩
theorem wt_im0 : WT 278 RT 128 := by
  unfold WT
  repeat' apply And.intro
  all_goals decide +kernel
theorem ws_im0 : WS 278 RT 128 := ⟨wt_im0, by decide, fun i hi => by
  unfold ES
  have : i = 0 ∨ i = 1 ∨ i = 2 ∨ i = 3 ∨ i = 4 ∨ i = 5 ∨ i = 6 ∨ i = 7 := by omega
  rcases this with rfl | rfl | rfl | rfl | rfl | rfl | rfl | rfl <;> (repeat' apply And.intro) <;> decide +kernel⟩
theorem wt_im1 : WT 278 RT 191 := by
  unfold WT
  repeat' apply And.intro
  all_goals decide +kernel
theorem ws_im1 : WS 278 RT 191 := ⟨wt_im1, by decide, fun i hi => by
  unfold ES
  have : i = 0 ∨ i = 1 ∨ i = 2 ∨ i = 3 ∨ i = 4 ∨ i = 5 ∨ i = 6 ∨ i = 7 := by omega
  rcases this with rfl | rfl | rfl | rfl | rfl | rfl | rfl | rfl <;> (repeat' apply And.intro) <;> decide +kernel⟩
theorem rs_s0 : SK 0 = (6, 0) := by decide +kernel
theorem rs_s127 : SK 127 = (11, 2) := by decide +kernel
theorem rs_s254 : SK 254 = (9, 2) := by decide +kernel
theorem rs_s255 : SK 255 = (4, 0) := by decide +kernel
theorem rs_s256 : SK 256 = (10, 150) := by decide +kernel
theorem rs_s257 : SK 257 = (8, 3) := by decide +kernel
theorem rs_s258 : SK 258 = (2, 0) := by decide +kernel
theorem rs_s259 : SK 259 = (8, 2) := by decide +kernel
theorem rs_s260 : SK 260 = (13, 2) := by decide +kernel
theorem rs_s261 : SK 261 = (8, 8) := by decide +kernel
theorem rs_s262 : SK 262 = (8, 8) := by decide +kernel
theorem rs_s263 : SK 263 = (8, 6) := by decide +kernel
theorem rs_s264 : SK 264 = (8, 2) := by decide +kernel
theorem rs_s265 : SK 265 = (3, 0) := by decide +kernel
theorem rs_s266 : SK 266 = (8, 5) := by decide +kernel
theorem rs_s267 : SK 267 = (8, 3) := by decide +kernel
theorem rs_s268 : SK 268 = (7, 0) := by decide +kernel
theorem rs_s269 : SK 269 = (8, 196) := by decide +kernel
theorem rs_s270 : SK 270 = (8, 196) := by decide +kernel
theorem rs_s271 : SK 271 = (8, 392) := by decide +kernel
theorem rs_s272 : SK 272 = (9, 2) := by decide +kernel
theorem rs_s273 : SK 273 = (8, 3) := by decide +kernel
theorem rs_s274 : SK 274 = (8, 150) := by decide +kernel
theorem rs_s275 : SK 275 = (8, 6) := by decide +kernel
theorem rs_s276 : SK 276 = (8, 6) := by decide +kernel
theorem rs_s277 : SK 277 = (8, 3) := by decide +kernel
theorem rs_r0_0 : RT 0 0 = some 1 := by decide +kernel
theorem rs_r0_1 : RT 0 1 = some 64 := by decide +kernel
theorem rs_r0_2 : RT 0 2 = some 127 := by decide +kernel
theorem rs_r0_3 : RT 0 3 = some 254 := by decide +kernel
theorem rs_r0_4 : RT 0 4 = some 255 := by decide +kernel
theorem rs_r0_5 : RT 0 5 = some 258 := by decide +kernel
theorem rs_r0_6 : RT 0 6 = some 265 := by decide +kernel
theorem rs_r0_7 : RT 0 7 = some 267 := by decide +kernel
theorem rs_r127_0 : RT 127 0 = some 128 := by decide +kernel
theorem rs_r127_1 : RT 127 1 = some 191 := by decide +kernel
theorem rs_r255_0 : RT 255 0 = some 256 := by decide +kernel
theorem rs_r255_4 : RT 255 4 = some 257 := by decide +kernel
theorem rs_r258_0 : RT 258 0 = some 259 := by decide +kernel
theorem rs_r258_1 : RT 258 1 = some 260 := by decide +kernel
theorem rs_r258_2 : RT 258 2 = some 263 := by decide +kernel
theorem rs_r258_3 : RT 258 3 = some 264 := by decide +kernel
theorem rs_r260_0 : RT 260 0 = some 261 := by decide +kernel
theorem rs_r260_1 : RT 260 1 = some 262 := by decide +kernel
theorem rs_r265_0 : RT 265 0 = some 266 := by decide +kernel
theorem rs_r268_0 : RT 268 0 = some 269 := by decide +kernel
theorem rs_r268_1 : RT 268 1 = some 270 := by decide +kernel
theorem rs_r268_2 : RT 268 2 = some 271 := by decide +kernel
theorem rs_r268_3 : RT 268 3 = some 272 := by decide +kernel
theorem rs_r268_4 : RT 268 4 = some 273 := by decide +kernel
theorem rs_r268_5 : RT 268 5 = some 274 := by decide +kernel
theorem rs_r268_7 : RT 268 7 = some 275 := by decide +kernel
theorem rs_r268_8 : RT 268 8 = some 276 := by decide +kernel
theorem rs_r268_13 : RT 268 13 = some 277 := by decide +kernel
