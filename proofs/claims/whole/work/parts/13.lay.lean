abbrev Sh : Type := Nat → Option (Nat × Nat)
abbrev Rf : Type := Nat → Nat → Option Nat
def LX2 (S : Sh) (R : Rf) (a : Nat) : Prop := S a = some (2, 0) ∧ R a 1 = some (a + 1) ∧ S (a + 1) = some (12, 30) ∧ R a 2 = some (a + 2) ∧ S (a + 2) = some (12, 30) ∧ R a 3 = some (a + 3) ∧ S (a + 3) = some (12, 30) ∧ R a 4 = some (a + 4) ∧ S (a + 4) = some (12, 30) ∧ R a 5 = some (a + 5) ∧ S (a + 5) = some (12, 30) ∧ R a 6 = some (a + 6) ∧ S (a + 6) = some (12, 30) ∧ R a 7 = some (a + 7) ∧ S (a + 7) = some (12, 30) ∧ R a 8 = some (a + 8) ∧ S (a + 8) = some (12, 30) ∧ R a 9 = some (a + 9) ∧ S (a + 9) = some (12, 30) ∧ R a 10 = some (a + 10) ∧ S (a + 10) = some (12, 30)
theorem LX2_s {S : Sh} {R : Rf} {a : Nat} (h : LX2 S R a) : S a = some (2, 0) := h.1
theorem LX2_r1 {S : Sh} {R : Rf} {a : Nat} (h : LX2 S R a) : R a 1 = some (a + 1) := h.2.1
theorem LX2_a1 {S : Sh} {R : Rf} {a : Nat} (h : LX2 S R a) : S (a + 1) = some (12, 30) := h.2.2.1
theorem LX2_r2 {S : Sh} {R : Rf} {a : Nat} (h : LX2 S R a) : R a 2 = some (a + 2) := h.2.2.2.1
theorem LX2_a2 {S : Sh} {R : Rf} {a : Nat} (h : LX2 S R a) : S (a + 2) = some (12, 30) := h.2.2.2.2.1
theorem LX2_r3 {S : Sh} {R : Rf} {a : Nat} (h : LX2 S R a) : R a 3 = some (a + 3) := h.2.2.2.2.2.1
theorem LX2_a3 {S : Sh} {R : Rf} {a : Nat} (h : LX2 S R a) : S (a + 3) = some (12, 30) := h.2.2.2.2.2.2.1
theorem LX2_r4 {S : Sh} {R : Rf} {a : Nat} (h : LX2 S R a) : R a 4 = some (a + 4) := h.2.2.2.2.2.2.2.1
theorem LX2_a4 {S : Sh} {R : Rf} {a : Nat} (h : LX2 S R a) : S (a + 4) = some (12, 30) := h.2.2.2.2.2.2.2.2.1
theorem LX2_r5 {S : Sh} {R : Rf} {a : Nat} (h : LX2 S R a) : R a 5 = some (a + 5) := h.2.2.2.2.2.2.2.2.2.1
theorem LX2_a5 {S : Sh} {R : Rf} {a : Nat} (h : LX2 S R a) : S (a + 5) = some (12, 30) := h.2.2.2.2.2.2.2.2.2.2.1
theorem LX2_r6 {S : Sh} {R : Rf} {a : Nat} (h : LX2 S R a) : R a 6 = some (a + 6) := h.2.2.2.2.2.2.2.2.2.2.2.1
theorem LX2_a6 {S : Sh} {R : Rf} {a : Nat} (h : LX2 S R a) : S (a + 6) = some (12, 30) := h.2.2.2.2.2.2.2.2.2.2.2.2.1
theorem LX2_r7 {S : Sh} {R : Rf} {a : Nat} (h : LX2 S R a) : R a 7 = some (a + 7) := h.2.2.2.2.2.2.2.2.2.2.2.2.2.1
theorem LX2_a7 {S : Sh} {R : Rf} {a : Nat} (h : LX2 S R a) : S (a + 7) = some (12, 30) := h.2.2.2.2.2.2.2.2.2.2.2.2.2.2.1
theorem LX2_r8 {S : Sh} {R : Rf} {a : Nat} (h : LX2 S R a) : R a 8 = some (a + 8) := h.2.2.2.2.2.2.2.2.2.2.2.2.2.2.2.1
theorem LX2_a8 {S : Sh} {R : Rf} {a : Nat} (h : LX2 S R a) : S (a + 8) = some (12, 30) := h.2.2.2.2.2.2.2.2.2.2.2.2.2.2.2.2.1
theorem LX2_r9 {S : Sh} {R : Rf} {a : Nat} (h : LX2 S R a) : R a 9 = some (a + 9) := h.2.2.2.2.2.2.2.2.2.2.2.2.2.2.2.2.2.1
theorem LX2_a9 {S : Sh} {R : Rf} {a : Nat} (h : LX2 S R a) : S (a + 9) = some (12, 30) := h.2.2.2.2.2.2.2.2.2.2.2.2.2.2.2.2.2.2.1
theorem LX2_r10 {S : Sh} {R : Rf} {a : Nat} (h : LX2 S R a) : R a 10 = some (a + 10) := h.2.2.2.2.2.2.2.2.2.2.2.2.2.2.2.2.2.2.2.1
theorem LX2_a10 {S : Sh} {R : Rf} {a : Nat} (h : LX2 S R a) : S (a + 10) = some (12, 30) := h.2.2.2.2.2.2.2.2.2.2.2.2.2.2.2.2.2.2.2.2
def LX3 (S : Sh) (R : Rf) (a : Nat) : Prop := S a = some (3, 0) ∧ R a 1 = some (a + 1) ∧ S (a + 1) = some (12, 160)
theorem LX3_s {S : Sh} {R : Rf} {a : Nat} (h : LX3 S R a) : S a = some (3, 0) := h.1
theorem LX3_r1 {S : Sh} {R : Rf} {a : Nat} (h : LX3 S R a) : R a 1 = some (a + 1) := h.2.1
theorem LX3_a1 {S : Sh} {R : Rf} {a : Nat} (h : LX3 S R a) : S (a + 1) = some (12, 160) := h.2.2
def LX4 (S : Sh) (R : Rf) (a : Nat) : Prop := S a = some (4, 0) ∧ R a 1 = some (a + 1) ∧ S (a + 1) = some (12, 30) ∧ R a 2 = some (a + 2) ∧ S (a + 2) = some (12, 30)
theorem LX4_s {S : Sh} {R : Rf} {a : Nat} (h : LX4 S R a) : S a = some (4, 0) := h.1
theorem LX4_r1 {S : Sh} {R : Rf} {a : Nat} (h : LX4 S R a) : R a 1 = some (a + 1) := h.2.1
theorem LX4_a1 {S : Sh} {R : Rf} {a : Nat} (h : LX4 S R a) : S (a + 1) = some (12, 30) := h.2.2.1
theorem LX4_r2 {S : Sh} {R : Rf} {a : Nat} (h : LX4 S R a) : R a 2 = some (a + 2) := h.2.2.2.1
theorem LX4_a2 {S : Sh} {R : Rf} {a : Nat} (h : LX4 S R a) : S (a + 2) = some (12, 30) := h.2.2.2.2
def LX6 (S : Sh) (R : Rf) (a : Nat) : Prop := S a = some (6, 0) ∧ R a 2 = some (a + 1) ∧ S (a + 1) = some (12, 300)
theorem LX6_s {S : Sh} {R : Rf} {a : Nat} (h : LX6 S R a) : S a = some (6, 0) := h.1
theorem LX6_r2 {S : Sh} {R : Rf} {a : Nat} (h : LX6 S R a) : R a 2 = some (a + 1) := h.2.1
theorem LX6_a2 {S : Sh} {R : Rf} {a : Nat} (h : LX6 S R a) : S (a + 1) = some (12, 300) := h.2.2
def LX7 (S : Sh) (R : Rf) (a : Nat) : Prop := S a = some (7, 0) ∧ R a 2 = some (a + 1) ∧ S (a + 1) = some (12, 10)
theorem LX7_s {S : Sh} {R : Rf} {a : Nat} (h : LX7 S R a) : S a = some (7, 0) := h.1
theorem LX7_r2 {S : Sh} {R : Rf} {a : Nat} (h : LX7 S R a) : R a 2 = some (a + 1) := h.2.1
theorem LX7_a2 {S : Sh} {R : Rf} {a : Nat} (h : LX7 S R a) : S (a + 1) = some (12, 10) := h.2.2
def LX9 (S : Sh) (R : Rf) (a : Nat) : Prop := S a = some (9, 0) ∧ R a 3 = some (a + 1) ∧ S (a + 1) = some (12, 10) ∧ R a 4 = some (a + 2) ∧ S (a + 2) = some (12, 5) ∧ R a 5 = some (a + 3) ∧ S (a + 3) = some (12, 5) ∧ R a 6 = some (a + 4) ∧ S (a + 4) = some (12, 1680) ∧ R a 7 = some (a + 5) ∧ S (a + 5) = some (12, 168)
theorem LX9_s {S : Sh} {R : Rf} {a : Nat} (h : LX9 S R a) : S a = some (9, 0) := h.1
theorem LX9_r3 {S : Sh} {R : Rf} {a : Nat} (h : LX9 S R a) : R a 3 = some (a + 1) := h.2.1
theorem LX9_a3 {S : Sh} {R : Rf} {a : Nat} (h : LX9 S R a) : S (a + 1) = some (12, 10) := h.2.2.1
theorem LX9_r4 {S : Sh} {R : Rf} {a : Nat} (h : LX9 S R a) : R a 4 = some (a + 2) := h.2.2.2.1
theorem LX9_a4 {S : Sh} {R : Rf} {a : Nat} (h : LX9 S R a) : S (a + 2) = some (12, 5) := h.2.2.2.2.1
theorem LX9_r5 {S : Sh} {R : Rf} {a : Nat} (h : LX9 S R a) : R a 5 = some (a + 3) := h.2.2.2.2.2.1
theorem LX9_a5 {S : Sh} {R : Rf} {a : Nat} (h : LX9 S R a) : S (a + 3) = some (12, 5) := h.2.2.2.2.2.2.1
theorem LX9_r6 {S : Sh} {R : Rf} {a : Nat} (h : LX9 S R a) : R a 6 = some (a + 4) := h.2.2.2.2.2.2.2.1
theorem LX9_a6 {S : Sh} {R : Rf} {a : Nat} (h : LX9 S R a) : S (a + 4) = some (12, 1680) := h.2.2.2.2.2.2.2.2.1
theorem LX9_r7 {S : Sh} {R : Rf} {a : Nat} (h : LX9 S R a) : R a 7 = some (a + 5) := h.2.2.2.2.2.2.2.2.2.1
theorem LX9_a7 {S : Sh} {R : Rf} {a : Nat} (h : LX9 S R a) : S (a + 5) = some (12, 168) := h.2.2.2.2.2.2.2.2.2.2
def LX8 (S : Sh) (R : Rf) (a : Nat) : Prop := S a = some (8, 0) ∧ R a 4 = some (a + 1) ∧ S (a + 1) = some (12, 5) ∧ R a 5 = some (a + 2) ∧ LX2 S R (a + 2) ∧ R a 6 = some (a + 13) ∧ LX6 S R (a + 13) ∧ R a 7 = some (a + 15) ∧ LX4 S R (a + 15)
theorem LX8_s {S : Sh} {R : Rf} {a : Nat} (h : LX8 S R a) : S a = some (8, 0) := h.1
theorem LX8_r4 {S : Sh} {R : Rf} {a : Nat} (h : LX8 S R a) : R a 4 = some (a + 1) := h.2.1
theorem LX8_a4 {S : Sh} {R : Rf} {a : Nat} (h : LX8 S R a) : S (a + 1) = some (12, 5) := h.2.2.1
theorem LX8_r5 {S : Sh} {R : Rf} {a : Nat} (h : LX8 S R a) : R a 5 = some (a + 2) := h.2.2.2.1
theorem LX8_o5 {S : Sh} {R : Rf} {a : Nat} (h : LX8 S R a) : LX2 S R (a + 2) := h.2.2.2.2.1
theorem LX8_r6 {S : Sh} {R : Rf} {a : Nat} (h : LX8 S R a) : R a 6 = some (a + 13) := h.2.2.2.2.2.1
theorem LX8_o6 {S : Sh} {R : Rf} {a : Nat} (h : LX8 S R a) : LX6 S R (a + 13) := h.2.2.2.2.2.2.1
theorem LX8_r7 {S : Sh} {R : Rf} {a : Nat} (h : LX8 S R a) : R a 7 = some (a + 15) := h.2.2.2.2.2.2.2.1
theorem LX8_o7 {S : Sh} {R : Rf} {a : Nat} (h : LX8 S R a) : LX4 S R (a + 15) := h.2.2.2.2.2.2.2.2
def LX0 (S : Sh) (R : Rf) (a : Nat) : Prop := S a = some (0, 0) ∧ R a 2 = some (a + 1) ∧ S (a + 1) = some (15, 8) ∧ (∀ j, j < 8 → R (a + 1) j = some (a + (2 + 18 * j)) ∧ LX8 S R (a + (2 + 18 * j)))
theorem LX0_s {S : Sh} {R : Rf} {a : Nat} (h : LX0 S R a) : S a = some (0, 0) := h.1
theorem LX0_r2 {S : Sh} {R : Rf} {a : Nat} (h : LX0 S R a) : R a 2 = some (a + 1) := h.2.1
theorem LX0_a2 {S : Sh} {R : Rf} {a : Nat} (h : LX0 S R a) : S (a + 1) = some (15, 8) := h.2.2.1
theorem LX0_e {S : Sh} {R : Rf} {a : Nat} (h : LX0 S R a) : ∀ j, j < 8 → R (a + 1) j = some (a + (2 + 18 * j)) ∧ LX8 S R (a + (2 + 18 * j)) := h.2.2.2
def LX1 (S : Sh) (R : Rf) (a : Nat) : Prop := S a = some (1, 0) ∧ R a 0 = some (a + 1) ∧ LX7 S R (a + 1) ∧ R a 1 = some (a + 3) ∧ S (a + 3) = some (12, 60) ∧ R a 2 = some (a + 4) ∧ S (a + 4) = some (12, 30) ∧ R a 3 = some (a + 5) ∧ S (a + 5) = some (12, 5)
theorem LX1_s {S : Sh} {R : Rf} {a : Nat} (h : LX1 S R a) : S a = some (1, 0) := h.1
theorem LX1_r0 {S : Sh} {R : Rf} {a : Nat} (h : LX1 S R a) : R a 0 = some (a + 1) := h.2.1
theorem LX1_o0 {S : Sh} {R : Rf} {a : Nat} (h : LX1 S R a) : LX7 S R (a + 1) := h.2.2.1
theorem LX1_r1 {S : Sh} {R : Rf} {a : Nat} (h : LX1 S R a) : R a 1 = some (a + 3) := h.2.2.2.1
theorem LX1_a1 {S : Sh} {R : Rf} {a : Nat} (h : LX1 S R a) : S (a + 3) = some (12, 60) := h.2.2.2.2.1
theorem LX1_r2 {S : Sh} {R : Rf} {a : Nat} (h : LX1 S R a) : R a 2 = some (a + 4) := h.2.2.2.2.2.1
theorem LX1_a2 {S : Sh} {R : Rf} {a : Nat} (h : LX1 S R a) : S (a + 4) = some (12, 30) := h.2.2.2.2.2.2.1
theorem LX1_r3 {S : Sh} {R : Rf} {a : Nat} (h : LX1 S R a) : R a 3 = some (a + 5) := h.2.2.2.2.2.2.2.1
theorem LX1_a3 {S : Sh} {R : Rf} {a : Nat} (h : LX1 S R a) : S (a + 5) = some (12, 5) := h.2.2.2.2.2.2.2.2
def LX5 (S : Sh) (R : Rf) (a : Nat) : Prop := S a = some (5, 0) ∧ R a 0 = some (a + 1) ∧ LX9 S R (a + 1) ∧ R a 1 = some (a + 7) ∧ LX8 S R (a + 7)
theorem LX5_s {S : Sh} {R : Rf} {a : Nat} (h : LX5 S R a) : S a = some (5, 0) := h.1
theorem LX5_r0 {S : Sh} {R : Rf} {a : Nat} (h : LX5 S R a) : R a 0 = some (a + 1) := h.2.1
theorem LX5_o0 {S : Sh} {R : Rf} {a : Nat} (h : LX5 S R a) : LX9 S R (a + 1) := h.2.2.1
theorem LX5_r1 {S : Sh} {R : Rf} {a : Nat} (h : LX5 S R a) : R a 1 = some (a + 7) := h.2.2.2.1
theorem LX5_o1 {S : Sh} {R : Rf} {a : Nat} (h : LX5 S R a) : LX8 S R (a + 7) := h.2.2.2.2
def LX10 (S : Sh) (R : Rf) (a : Nat) : Prop := S a = some (10, 0) ∧ R a 0 = some (a + 1) ∧ S (a + 1) = some (12, 900) ∧ R a 4 = some (a + 2) ∧ LX5 S R (a + 2) ∧ R a 5 = some (a + 28) ∧ LX9 S R (a + 28) ∧ R a 6 = some (a + 34) ∧ LX8 S R (a + 34) ∧ R a 7 = some (a + 52) ∧ LX0 S R (a + 52) ∧ R a 8 = some (a + 198) ∧ LX7 S R (a + 198) ∧ R a 9 = some (a + 200) ∧ LX1 S R (a + 200) ∧ R a 10 = some (a + 206) ∧ LX3 S R (a + 206)
theorem LX10_s {S : Sh} {R : Rf} {a : Nat} (h : LX10 S R a) : S a = some (10, 0) := h.1
theorem LX10_r0 {S : Sh} {R : Rf} {a : Nat} (h : LX10 S R a) : R a 0 = some (a + 1) := h.2.1
theorem LX10_a0 {S : Sh} {R : Rf} {a : Nat} (h : LX10 S R a) : S (a + 1) = some (12, 900) := h.2.2.1
theorem LX10_r4 {S : Sh} {R : Rf} {a : Nat} (h : LX10 S R a) : R a 4 = some (a + 2) := h.2.2.2.1
theorem LX10_o4 {S : Sh} {R : Rf} {a : Nat} (h : LX10 S R a) : LX5 S R (a + 2) := h.2.2.2.2.1
theorem LX10_r5 {S : Sh} {R : Rf} {a : Nat} (h : LX10 S R a) : R a 5 = some (a + 28) := h.2.2.2.2.2.1
theorem LX10_o5 {S : Sh} {R : Rf} {a : Nat} (h : LX10 S R a) : LX9 S R (a + 28) := h.2.2.2.2.2.2.1
theorem LX10_r6 {S : Sh} {R : Rf} {a : Nat} (h : LX10 S R a) : R a 6 = some (a + 34) := h.2.2.2.2.2.2.2.1
theorem LX10_o6 {S : Sh} {R : Rf} {a : Nat} (h : LX10 S R a) : LX8 S R (a + 34) := h.2.2.2.2.2.2.2.2.1
theorem LX10_r7 {S : Sh} {R : Rf} {a : Nat} (h : LX10 S R a) : R a 7 = some (a + 52) := h.2.2.2.2.2.2.2.2.2.1
theorem LX10_o7 {S : Sh} {R : Rf} {a : Nat} (h : LX10 S R a) : LX0 S R (a + 52) := h.2.2.2.2.2.2.2.2.2.2.1
theorem LX10_r8 {S : Sh} {R : Rf} {a : Nat} (h : LX10 S R a) : R a 8 = some (a + 198) := h.2.2.2.2.2.2.2.2.2.2.2.1
theorem LX10_o8 {S : Sh} {R : Rf} {a : Nat} (h : LX10 S R a) : LX7 S R (a + 198) := h.2.2.2.2.2.2.2.2.2.2.2.2.1
theorem LX10_r9 {S : Sh} {R : Rf} {a : Nat} (h : LX10 S R a) : R a 9 = some (a + 200) := h.2.2.2.2.2.2.2.2.2.2.2.2.2.1
theorem LX10_o9 {S : Sh} {R : Rf} {a : Nat} (h : LX10 S R a) : LX1 S R (a + 200) := h.2.2.2.2.2.2.2.2.2.2.2.2.2.2.1
theorem LX10_r10 {S : Sh} {R : Rf} {a : Nat} (h : LX10 S R a) : R a 10 = some (a + 206) := h.2.2.2.2.2.2.2.2.2.2.2.2.2.2.2.1
theorem LX10_o10 {S : Sh} {R : Rf} {a : Nat} (h : LX10 S R a) : LX3 S R (a + 206) := h.2.2.2.2.2.2.2.2.2.2.2.2.2.2.2.2
def LX11 (S : Sh) (R : Rf) (a : Nat) : Prop := S a = some (11, 0) ∧ R a 1 = some (a + 1) ∧ S (a + 1) = some (12, 1158) ∧ R a 2 = some (a + 2) ∧ S (a + 2) = some (12, 1158) ∧ R a 3 = some (a + 3) ∧ S (a + 3) = some (12, 9264) ∧ R a 5 = some (a + 4) ∧ S (a + 4) = some (13, 900) ∧ R a 6 = some (a + 5) ∧ S (a + 5) = some (12, 5) ∧ R a 15 = some (a + 6) ∧ S (a + 6) = some (12, 13) ∧ R a 16 = some (a + 7) ∧ S (a + 7) = some (12, 5) ∧ R a 17 = some (a + 8) ∧ S (a + 8) = some (12, 5) ∧ R a 18 = some (a + 9) ∧ S (a + 9) = some (12, 10) ∧ R a 19 = some (a + 10) ∧ S (a + 10) = some (12, 30) ∧ R a 20 = some (a + 11) ∧ S (a + 11) = some (12, 5) ∧ R a 21 = some (a + 12) ∧ S (a + 12) = some (12, 60) ∧ R a 22 = some (a + 13) ∧ S (a + 13) = some (13, 200)
theorem LX11_s {S : Sh} {R : Rf} {a : Nat} (h : LX11 S R a) : S a = some (11, 0) := h.1
theorem LX11_r1 {S : Sh} {R : Rf} {a : Nat} (h : LX11 S R a) : R a 1 = some (a + 1) := h.2.1
theorem LX11_a1 {S : Sh} {R : Rf} {a : Nat} (h : LX11 S R a) : S (a + 1) = some (12, 1158) := h.2.2.1
theorem LX11_r2 {S : Sh} {R : Rf} {a : Nat} (h : LX11 S R a) : R a 2 = some (a + 2) := h.2.2.2.1
theorem LX11_a2 {S : Sh} {R : Rf} {a : Nat} (h : LX11 S R a) : S (a + 2) = some (12, 1158) := h.2.2.2.2.1
theorem LX11_r3 {S : Sh} {R : Rf} {a : Nat} (h : LX11 S R a) : R a 3 = some (a + 3) := h.2.2.2.2.2.1
theorem LX11_a3 {S : Sh} {R : Rf} {a : Nat} (h : LX11 S R a) : S (a + 3) = some (12, 9264) := h.2.2.2.2.2.2.1
theorem LX11_r5 {S : Sh} {R : Rf} {a : Nat} (h : LX11 S R a) : R a 5 = some (a + 4) := h.2.2.2.2.2.2.2.1
theorem LX11_a5 {S : Sh} {R : Rf} {a : Nat} (h : LX11 S R a) : S (a + 4) = some (13, 900) := h.2.2.2.2.2.2.2.2.1
theorem LX11_r6 {S : Sh} {R : Rf} {a : Nat} (h : LX11 S R a) : R a 6 = some (a + 5) := h.2.2.2.2.2.2.2.2.2.1
theorem LX11_a6 {S : Sh} {R : Rf} {a : Nat} (h : LX11 S R a) : S (a + 5) = some (12, 5) := h.2.2.2.2.2.2.2.2.2.2.1
theorem LX11_r15 {S : Sh} {R : Rf} {a : Nat} (h : LX11 S R a) : R a 15 = some (a + 6) := h.2.2.2.2.2.2.2.2.2.2.2.1
theorem LX11_a15 {S : Sh} {R : Rf} {a : Nat} (h : LX11 S R a) : S (a + 6) = some (12, 13) := h.2.2.2.2.2.2.2.2.2.2.2.2.1
theorem LX11_r16 {S : Sh} {R : Rf} {a : Nat} (h : LX11 S R a) : R a 16 = some (a + 7) := h.2.2.2.2.2.2.2.2.2.2.2.2.2.1
theorem LX11_a16 {S : Sh} {R : Rf} {a : Nat} (h : LX11 S R a) : S (a + 7) = some (12, 5) := h.2.2.2.2.2.2.2.2.2.2.2.2.2.2.1
theorem LX11_r17 {S : Sh} {R : Rf} {a : Nat} (h : LX11 S R a) : R a 17 = some (a + 8) := h.2.2.2.2.2.2.2.2.2.2.2.2.2.2.2.1
theorem LX11_a17 {S : Sh} {R : Rf} {a : Nat} (h : LX11 S R a) : S (a + 8) = some (12, 5) := h.2.2.2.2.2.2.2.2.2.2.2.2.2.2.2.2.1
theorem LX11_r18 {S : Sh} {R : Rf} {a : Nat} (h : LX11 S R a) : R a 18 = some (a + 9) := h.2.2.2.2.2.2.2.2.2.2.2.2.2.2.2.2.2.1
theorem LX11_a18 {S : Sh} {R : Rf} {a : Nat} (h : LX11 S R a) : S (a + 9) = some (12, 10) := h.2.2.2.2.2.2.2.2.2.2.2.2.2.2.2.2.2.2.1
theorem LX11_r19 {S : Sh} {R : Rf} {a : Nat} (h : LX11 S R a) : R a 19 = some (a + 10) := h.2.2.2.2.2.2.2.2.2.2.2.2.2.2.2.2.2.2.2.1
theorem LX11_a19 {S : Sh} {R : Rf} {a : Nat} (h : LX11 S R a) : S (a + 10) = some (12, 30) := h.2.2.2.2.2.2.2.2.2.2.2.2.2.2.2.2.2.2.2.2.1
theorem LX11_r20 {S : Sh} {R : Rf} {a : Nat} (h : LX11 S R a) : R a 20 = some (a + 11) := h.2.2.2.2.2.2.2.2.2.2.2.2.2.2.2.2.2.2.2.2.2.1
theorem LX11_a20 {S : Sh} {R : Rf} {a : Nat} (h : LX11 S R a) : S (a + 11) = some (12, 5) := h.2.2.2.2.2.2.2.2.2.2.2.2.2.2.2.2.2.2.2.2.2.2.1
theorem LX11_r21 {S : Sh} {R : Rf} {a : Nat} (h : LX11 S R a) : R a 21 = some (a + 12) := h.2.2.2.2.2.2.2.2.2.2.2.2.2.2.2.2.2.2.2.2.2.2.2.1
theorem LX11_a21 {S : Sh} {R : Rf} {a : Nat} (h : LX11 S R a) : S (a + 12) = some (12, 60) := h.2.2.2.2.2.2.2.2.2.2.2.2.2.2.2.2.2.2.2.2.2.2.2.2.1
theorem LX11_r22 {S : Sh} {R : Rf} {a : Nat} (h : LX11 S R a) : R a 22 = some (a + 13) := h.2.2.2.2.2.2.2.2.2.2.2.2.2.2.2.2.2.2.2.2.2.2.2.2.2.1
theorem LX11_a22 {S : Sh} {R : Rf} {a : Nat} (h : LX11 S R a) : S (a + 13) = some (13, 200) := h.2.2.2.2.2.2.2.2.2.2.2.2.2.2.2.2.2.2.2.2.2.2.2.2.2.2
section SR
variable {G : GG} {base : Nat} {X : Cx} {cc : ByteArray} {own : String} {nL : Nat} {ret : Option FieldType} {d mc ms : Nat} {post : Ot → Mm → Prop} {cs sl : Nat} {M : Mm} {pc : Nat} {ls : List (Option Value)} {st : List Value}
/-- the listed values have one slot, when all that is known is of one slot -/
theorem lcl_put {ls : Array Slot} {l : List (Option Value)} {i : Nat} {v : Value} (h : lcl ls l) (hi : i < l.length) (h1 : lc1 l = true) {lv' : List (Nat × Value)} {ls' : Array Slot} (hlv : (i, v) :: (lpairs 0 l).filter (fun q => !(q.1 == i) && !(q.1 + 1 == i && q.2.category == 2)) = lv') (h' : lv_has ls' l.length lv') : lcl ls' (l.set i (some v)) := by
  subst hlv
  refine ⟨by rw [h'.1]; simp, h'.2.1, fun j w hj => ?_⟩
  by_cases hji : j = i
  · subst hji
    have hw : v = w := by simpa [List.getElem?_set, hi] using hj
    subst hw
    exact h'.2.2 (j, v) List.mem_cons_self
  · rw [List.getElem?_set_ne (Ne.symm hji)] at hj
    refine h'.2.2 (j, w) (List.mem_cons_of_mem _ (List.mem_filter.mpr ⟨(lpairs_mem l 0 _).mpr ⟨j, by simp, hj⟩, ?_⟩))
    have hc2 : w.category = 1 := by
      have := List.all_eq_true.mp h1 (some w) (List.mem_of_getElem? hj)
      simpa using this
    simp [hji, hc2]
theorem r_istN (hX : okX G base X cc own nL ret d mc ms post) {i : Fin 4} {x : Int32} (hd : decode cc pc = .ok (.istore_n i, 1)) (hi : (i : Nat) < ls.length) (h1 : lc1 ls = true) (k : J G base X cs sl M (pc + 1) (ls.set i (some (.int x))) st) : J G base X cs sl M pc ls (.int x :: st) := by
  obtain ⟨p, l, e, R, s, m, args, below, meth, c, Q⟩ := X
  obtain ⟨hx, hb, hml, hown, hts, hamb, hlk, hst, hr, hR, hQ, hout⟩ := hX
  intro H locs lsA hM hS hl
  exact lv_istore_n hx hb hd rfl (lcl_has hl) hi rfl (fun ls' h' => k H locs ls' hM hS (lcl_put hl hi h1 rfl h'))
theorem r_ist (hX : okX G base X cc own nL ret d mc ms post) {i : Nat} {x : Int32} (hd : decode cc pc = .ok (.istore i, 2)) (hi : i < ls.length) (h1 : lc1 ls = true) (k : J G base X cs sl M (pc + 2) (ls.set i (some (.int x))) st) : J G base X cs sl M pc ls (.int x :: st) := by
  obtain ⟨p, l, e, R, s, m, args, below, meth, c, Q⟩ := X
  obtain ⟨hx, hb, hml, hown, hts, hamb, hlk, hst, hr, hR, hQ, hout⟩ := hX
  intro H locs lsA hM hS hl
  exact lv_istore hx hb hd (lcl_has hl) hi rfl (fun ls' h' => k H locs ls' hM hS (lcl_put hl hi h1 rfl h'))
theorem r_astN (hX : okX G base X cc own nL ret d mc ms post) {i : Fin 4} {x : Nat} (hd : decode cc pc = .ok (.astore_n i, 1)) (hi : (i : Nat) < ls.length) (h1 : lc1 ls = true) (k : J G base X cs sl M (pc + 1) (ls.set i (some (.ref x))) st) : J G base X cs sl M pc ls (.ref x :: st) := by
  obtain ⟨p, l, e, R, s, m, args, below, meth, c, Q⟩ := X
  obtain ⟨hx, hb, hml, hown, hts, hamb, hlk, hst, hr, hR, hQ, hout⟩ := hX
  intro H locs lsA hM hS hl
  exact lv_astore_n hx hb hd rfl (lcl_has hl) hi rfl (fun ls' h' => k H locs ls' hM hS (lcl_put hl hi h1 rfl h'))
theorem r_ast (hX : okX G base X cc own nL ret d mc ms post) {i : Nat} {x : Nat} (hd : decode cc pc = .ok (.astore i, 2)) (hi : i < ls.length) (h1 : lc1 ls = true) (k : J G base X cs sl M (pc + 2) (ls.set i (some (.ref x))) st) : J G base X cs sl M pc ls (.ref x :: st) := by
  obtain ⟨p, l, e, R, s, m, args, below, meth, c, Q⟩ := X
  obtain ⟨hx, hb, hml, hown, hts, hamb, hlk, hst, hr, hR, hQ, hout⟩ := hX
  intro H locs lsA hM hS hl
  exact lv_astore hx hb hd (lcl_has hl) hi rfl (fun ls' h' => k H locs ls' hM hS (lcl_put hl hi h1 rfl h'))
theorem r_iinc (hX : okX G base X cc own nL ret d mc ms post) {i : Nat} {n : Int} {x : Int32} (hd : decode cc pc = .ok (.iinc i n, 3)) (hi : i < ls.length) (hg : ls[i]? = some (some (.int x))) (h1 : lc1 ls = true) (k : J G base X cs sl M (pc + 3) (ls.set i (some (.int (x + Int32.ofInt n)))) st) : J G base X cs sl M pc ls st := by
  obtain ⟨p, l, e, R, s, m, args, below, meth, c, Q⟩ := X
  obtain ⟨hx, hb, hml, hown, hts, hamb, hlk, hst, hr, hR, hQ, hout⟩ := hX
  intro H locs lsA hM hS hl
  obtain ⟨k9, hk9⟩ := List.getElem?_of_mem ((lpairs_mem ls 0 (i, .int x)).mpr ⟨i, by simp, hg⟩)
  exact lv_iinc (k := k9) (v := x + Int32.ofInt n) hx hb hd (lcl_has hl) hk9 rfl hi rfl (fun ls' h' => k H locs ls' hM hS (lcl_put hl hi h1 rfl h'))
theorem r_istore0 (hX : okX G base X cc own nL ret d mc ms post) {o0 : Option Value} {t : List (Option Value)} {x : Int32} (hd : decode cc pc = .ok (.istore_n 0, 1)) (h1 : lc1 (o0 :: t) = true) (k : J G base X cs sl M (pc + 1) (some (.int x) :: t) st) : J G base X cs sl M pc (o0 :: t) (.int x :: st) := r_istN (ls := o0 :: t) hX hd (by show 0 < _; simp; try omega) h1 k
theorem r_astore0 (hX : okX G base X cc own nL ret d mc ms post) {o0 : Option Value} {t : List (Option Value)} {x : Nat} (hd : decode cc pc = .ok (.astore_n 0, 1)) (h1 : lc1 (o0 :: t) = true) (k : J G base X cs sl M (pc + 1) (some (.ref x) :: t) st) : J G base X cs sl M pc (o0 :: t) (.ref x :: st) := r_astN (ls := o0 :: t) hX hd (by show 0 < _; simp; try omega) h1 k
theorem r_iinc0 (hX : okX G base X cc own nL ret d mc ms post) {t : List (Option Value)} {x : Int32} {n : Int} (hd : decode cc pc = .ok (.iinc 0 n, 3)) (h1 : lc1 (some (.int x) :: t) = true) (k : J G base X cs sl M (pc + 3) (some (.int (x + Int32.ofInt n)) :: t) st) : J G base X cs sl M pc (some (.int x) :: t) st := r_iinc (ls := some (.int x) :: t) hX hd (by simp) rfl h1 k
theorem r_istore1 (hX : okX G base X cc own nL ret d mc ms post) {o0 o1 : Option Value} {t : List (Option Value)} {x : Int32} (hd : decode cc pc = .ok (.istore_n 1, 1)) (h1 : lc1 (o0 :: o1 :: t) = true) (k : J G base X cs sl M (pc + 1) (o0 :: some (.int x) :: t) st) : J G base X cs sl M pc (o0 :: o1 :: t) (.int x :: st) := r_istN (ls := o0 :: o1 :: t) hX hd (by show 1 < _; simp; try omega) h1 k
theorem r_astore1 (hX : okX G base X cc own nL ret d mc ms post) {o0 o1 : Option Value} {t : List (Option Value)} {x : Nat} (hd : decode cc pc = .ok (.astore_n 1, 1)) (h1 : lc1 (o0 :: o1 :: t) = true) (k : J G base X cs sl M (pc + 1) (o0 :: some (.ref x) :: t) st) : J G base X cs sl M pc (o0 :: o1 :: t) (.ref x :: st) := r_astN (ls := o0 :: o1 :: t) hX hd (by show 1 < _; simp; try omega) h1 k
theorem r_iinc1 (hX : okX G base X cc own nL ret d mc ms post) {o0 : Option Value} {t : List (Option Value)} {x : Int32} {n : Int} (hd : decode cc pc = .ok (.iinc 1 n, 3)) (h1 : lc1 (o0 :: some (.int x) :: t) = true) (k : J G base X cs sl M (pc + 3) (o0 :: some (.int (x + Int32.ofInt n)) :: t) st) : J G base X cs sl M pc (o0 :: some (.int x) :: t) st := r_iinc (ls := o0 :: some (.int x) :: t) hX hd (by simp) rfl h1 k
theorem r_istore2 (hX : okX G base X cc own nL ret d mc ms post) {o0 o1 o2 : Option Value} {t : List (Option Value)} {x : Int32} (hd : decode cc pc = .ok (.istore_n 2, 1)) (h1 : lc1 (o0 :: o1 :: o2 :: t) = true) (k : J G base X cs sl M (pc + 1) (o0 :: o1 :: some (.int x) :: t) st) : J G base X cs sl M pc (o0 :: o1 :: o2 :: t) (.int x :: st) := r_istN (ls := o0 :: o1 :: o2 :: t) hX hd (by show 2 < _; simp; try omega) h1 k
theorem r_astore2 (hX : okX G base X cc own nL ret d mc ms post) {o0 o1 o2 : Option Value} {t : List (Option Value)} {x : Nat} (hd : decode cc pc = .ok (.astore_n 2, 1)) (h1 : lc1 (o0 :: o1 :: o2 :: t) = true) (k : J G base X cs sl M (pc + 1) (o0 :: o1 :: some (.ref x) :: t) st) : J G base X cs sl M pc (o0 :: o1 :: o2 :: t) (.ref x :: st) := r_astN (ls := o0 :: o1 :: o2 :: t) hX hd (by show 2 < _; simp; try omega) h1 k
theorem r_iinc2 (hX : okX G base X cc own nL ret d mc ms post) {o0 o1 : Option Value} {t : List (Option Value)} {x : Int32} {n : Int} (hd : decode cc pc = .ok (.iinc 2 n, 3)) (h1 : lc1 (o0 :: o1 :: some (.int x) :: t) = true) (k : J G base X cs sl M (pc + 3) (o0 :: o1 :: some (.int (x + Int32.ofInt n)) :: t) st) : J G base X cs sl M pc (o0 :: o1 :: some (.int x) :: t) st := r_iinc (ls := o0 :: o1 :: some (.int x) :: t) hX hd (by simp) rfl h1 k
theorem r_istore3 (hX : okX G base X cc own nL ret d mc ms post) {o0 o1 o2 o3 : Option Value} {t : List (Option Value)} {x : Int32} (hd : decode cc pc = .ok (.istore_n 3, 1)) (h1 : lc1 (o0 :: o1 :: o2 :: o3 :: t) = true) (k : J G base X cs sl M (pc + 1) (o0 :: o1 :: o2 :: some (.int x) :: t) st) : J G base X cs sl M pc (o0 :: o1 :: o2 :: o3 :: t) (.int x :: st) := r_istN (ls := o0 :: o1 :: o2 :: o3 :: t) hX hd (by show 3 < _; simp; try omega) h1 k
theorem r_astore3 (hX : okX G base X cc own nL ret d mc ms post) {o0 o1 o2 o3 : Option Value} {t : List (Option Value)} {x : Nat} (hd : decode cc pc = .ok (.astore_n 3, 1)) (h1 : lc1 (o0 :: o1 :: o2 :: o3 :: t) = true) (k : J G base X cs sl M (pc + 1) (o0 :: o1 :: o2 :: some (.ref x) :: t) st) : J G base X cs sl M pc (o0 :: o1 :: o2 :: o3 :: t) (.ref x :: st) := r_astN (ls := o0 :: o1 :: o2 :: o3 :: t) hX hd (by show 3 < _; simp; try omega) h1 k
theorem r_iinc3 (hX : okX G base X cc own nL ret d mc ms post) {o0 o1 o2 : Option Value} {t : List (Option Value)} {x : Int32} {n : Int} (hd : decode cc pc = .ok (.iinc 3 n, 3)) (h1 : lc1 (o0 :: o1 :: o2 :: some (.int x) :: t) = true) (k : J G base X cs sl M (pc + 3) (o0 :: o1 :: o2 :: some (.int (x + Int32.ofInt n)) :: t) st) : J G base X cs sl M pc (o0 :: o1 :: o2 :: some (.int x) :: t) st := r_iinc (ls := o0 :: o1 :: o2 :: some (.int x) :: t) hX hd (by simp) rfl h1 k
theorem r_istore4 (hX : okX G base X cc own nL ret d mc ms post) {o0 o1 o2 o3 o4 : Option Value} {t : List (Option Value)} {x : Int32} (hd : decode cc pc = .ok (.istore 4, 2)) (h1 : lc1 (o0 :: o1 :: o2 :: o3 :: o4 :: t) = true) (k : J G base X cs sl M (pc + 2) (o0 :: o1 :: o2 :: o3 :: some (.int x) :: t) st) : J G base X cs sl M pc (o0 :: o1 :: o2 :: o3 :: o4 :: t) (.int x :: st) := r_ist (ls := o0 :: o1 :: o2 :: o3 :: o4 :: t) hX hd (by show 4 < _; simp; try omega) h1 k
theorem r_astore4 (hX : okX G base X cc own nL ret d mc ms post) {o0 o1 o2 o3 o4 : Option Value} {t : List (Option Value)} {x : Nat} (hd : decode cc pc = .ok (.astore 4, 2)) (h1 : lc1 (o0 :: o1 :: o2 :: o3 :: o4 :: t) = true) (k : J G base X cs sl M (pc + 2) (o0 :: o1 :: o2 :: o3 :: some (.ref x) :: t) st) : J G base X cs sl M pc (o0 :: o1 :: o2 :: o3 :: o4 :: t) (.ref x :: st) := r_ast (ls := o0 :: o1 :: o2 :: o3 :: o4 :: t) hX hd (by show 4 < _; simp; try omega) h1 k
theorem r_iinc4 (hX : okX G base X cc own nL ret d mc ms post) {o0 o1 o2 o3 : Option Value} {t : List (Option Value)} {x : Int32} {n : Int} (hd : decode cc pc = .ok (.iinc 4 n, 3)) (h1 : lc1 (o0 :: o1 :: o2 :: o3 :: some (.int x) :: t) = true) (k : J G base X cs sl M (pc + 3) (o0 :: o1 :: o2 :: o3 :: some (.int (x + Int32.ofInt n)) :: t) st) : J G base X cs sl M pc (o0 :: o1 :: o2 :: o3 :: some (.int x) :: t) st := r_iinc (ls := o0 :: o1 :: o2 :: o3 :: some (.int x) :: t) hX hd (by simp) rfl h1 k
theorem r_istore5 (hX : okX G base X cc own nL ret d mc ms post) {o0 o1 o2 o3 o4 o5 : Option Value} {t : List (Option Value)} {x : Int32} (hd : decode cc pc = .ok (.istore 5, 2)) (h1 : lc1 (o0 :: o1 :: o2 :: o3 :: o4 :: o5 :: t) = true) (k : J G base X cs sl M (pc + 2) (o0 :: o1 :: o2 :: o3 :: o4 :: some (.int x) :: t) st) : J G base X cs sl M pc (o0 :: o1 :: o2 :: o3 :: o4 :: o5 :: t) (.int x :: st) := r_ist (ls := o0 :: o1 :: o2 :: o3 :: o4 :: o5 :: t) hX hd (by show 5 < _; simp; try omega) h1 k
theorem r_astore5 (hX : okX G base X cc own nL ret d mc ms post) {o0 o1 o2 o3 o4 o5 : Option Value} {t : List (Option Value)} {x : Nat} (hd : decode cc pc = .ok (.astore 5, 2)) (h1 : lc1 (o0 :: o1 :: o2 :: o3 :: o4 :: o5 :: t) = true) (k : J G base X cs sl M (pc + 2) (o0 :: o1 :: o2 :: o3 :: o4 :: some (.ref x) :: t) st) : J G base X cs sl M pc (o0 :: o1 :: o2 :: o3 :: o4 :: o5 :: t) (.ref x :: st) := r_ast (ls := o0 :: o1 :: o2 :: o3 :: o4 :: o5 :: t) hX hd (by show 5 < _; simp; try omega) h1 k
theorem r_iinc5 (hX : okX G base X cc own nL ret d mc ms post) {o0 o1 o2 o3 o4 : Option Value} {t : List (Option Value)} {x : Int32} {n : Int} (hd : decode cc pc = .ok (.iinc 5 n, 3)) (h1 : lc1 (o0 :: o1 :: o2 :: o3 :: o4 :: some (.int x) :: t) = true) (k : J G base X cs sl M (pc + 3) (o0 :: o1 :: o2 :: o3 :: o4 :: some (.int (x + Int32.ofInt n)) :: t) st) : J G base X cs sl M pc (o0 :: o1 :: o2 :: o3 :: o4 :: some (.int x) :: t) st := r_iinc (ls := o0 :: o1 :: o2 :: o3 :: o4 :: some (.int x) :: t) hX hd (by simp) rfl h1 k
theorem r_istore6 (hX : okX G base X cc own nL ret d mc ms post) {o0 o1 o2 o3 o4 o5 o6 : Option Value} {t : List (Option Value)} {x : Int32} (hd : decode cc pc = .ok (.istore 6, 2)) (h1 : lc1 (o0 :: o1 :: o2 :: o3 :: o4 :: o5 :: o6 :: t) = true) (k : J G base X cs sl M (pc + 2) (o0 :: o1 :: o2 :: o3 :: o4 :: o5 :: some (.int x) :: t) st) : J G base X cs sl M pc (o0 :: o1 :: o2 :: o3 :: o4 :: o5 :: o6 :: t) (.int x :: st) := r_ist (ls := o0 :: o1 :: o2 :: o3 :: o4 :: o5 :: o6 :: t) hX hd (by show 6 < _; simp; try omega) h1 k
theorem r_astore6 (hX : okX G base X cc own nL ret d mc ms post) {o0 o1 o2 o3 o4 o5 o6 : Option Value} {t : List (Option Value)} {x : Nat} (hd : decode cc pc = .ok (.astore 6, 2)) (h1 : lc1 (o0 :: o1 :: o2 :: o3 :: o4 :: o5 :: o6 :: t) = true) (k : J G base X cs sl M (pc + 2) (o0 :: o1 :: o2 :: o3 :: o4 :: o5 :: some (.ref x) :: t) st) : J G base X cs sl M pc (o0 :: o1 :: o2 :: o3 :: o4 :: o5 :: o6 :: t) (.ref x :: st) := r_ast (ls := o0 :: o1 :: o2 :: o3 :: o4 :: o5 :: o6 :: t) hX hd (by show 6 < _; simp; try omega) h1 k
theorem r_iinc6 (hX : okX G base X cc own nL ret d mc ms post) {o0 o1 o2 o3 o4 o5 : Option Value} {t : List (Option Value)} {x : Int32} {n : Int} (hd : decode cc pc = .ok (.iinc 6 n, 3)) (h1 : lc1 (o0 :: o1 :: o2 :: o3 :: o4 :: o5 :: some (.int x) :: t) = true) (k : J G base X cs sl M (pc + 3) (o0 :: o1 :: o2 :: o3 :: o4 :: o5 :: some (.int (x + Int32.ofInt n)) :: t) st) : J G base X cs sl M pc (o0 :: o1 :: o2 :: o3 :: o4 :: o5 :: some (.int x) :: t) st := r_iinc (ls := o0 :: o1 :: o2 :: o3 :: o4 :: o5 :: some (.int x) :: t) hX hd (by simp) rfl h1 k
theorem r_istore7 (hX : okX G base X cc own nL ret d mc ms post) {o0 o1 o2 o3 o4 o5 o6 o7 : Option Value} {t : List (Option Value)} {x : Int32} (hd : decode cc pc = .ok (.istore 7, 2)) (h1 : lc1 (o0 :: o1 :: o2 :: o3 :: o4 :: o5 :: o6 :: o7 :: t) = true) (k : J G base X cs sl M (pc + 2) (o0 :: o1 :: o2 :: o3 :: o4 :: o5 :: o6 :: some (.int x) :: t) st) : J G base X cs sl M pc (o0 :: o1 :: o2 :: o3 :: o4 :: o5 :: o6 :: o7 :: t) (.int x :: st) := r_ist (ls := o0 :: o1 :: o2 :: o3 :: o4 :: o5 :: o6 :: o7 :: t) hX hd (by show 7 < _; simp; try omega) h1 k
theorem r_astore7 (hX : okX G base X cc own nL ret d mc ms post) {o0 o1 o2 o3 o4 o5 o6 o7 : Option Value} {t : List (Option Value)} {x : Nat} (hd : decode cc pc = .ok (.astore 7, 2)) (h1 : lc1 (o0 :: o1 :: o2 :: o3 :: o4 :: o5 :: o6 :: o7 :: t) = true) (k : J G base X cs sl M (pc + 2) (o0 :: o1 :: o2 :: o3 :: o4 :: o5 :: o6 :: some (.ref x) :: t) st) : J G base X cs sl M pc (o0 :: o1 :: o2 :: o3 :: o4 :: o5 :: o6 :: o7 :: t) (.ref x :: st) := r_ast (ls := o0 :: o1 :: o2 :: o3 :: o4 :: o5 :: o6 :: o7 :: t) hX hd (by show 7 < _; simp; try omega) h1 k
theorem r_iinc7 (hX : okX G base X cc own nL ret d mc ms post) {o0 o1 o2 o3 o4 o5 o6 : Option Value} {t : List (Option Value)} {x : Int32} {n : Int} (hd : decode cc pc = .ok (.iinc 7 n, 3)) (h1 : lc1 (o0 :: o1 :: o2 :: o3 :: o4 :: o5 :: o6 :: some (.int x) :: t) = true) (k : J G base X cs sl M (pc + 3) (o0 :: o1 :: o2 :: o3 :: o4 :: o5 :: o6 :: some (.int (x + Int32.ofInt n)) :: t) st) : J G base X cs sl M pc (o0 :: o1 :: o2 :: o3 :: o4 :: o5 :: o6 :: some (.int x) :: t) st := r_iinc (ls := o0 :: o1 :: o2 :: o3 :: o4 :: o5 :: o6 :: some (.int x) :: t) hX hd (by simp) rfl h1 k
theorem r_istore8 (hX : okX G base X cc own nL ret d mc ms post) {o0 o1 o2 o3 o4 o5 o6 o7 o8 : Option Value} {t : List (Option Value)} {x : Int32} (hd : decode cc pc = .ok (.istore 8, 2)) (h1 : lc1 (o0 :: o1 :: o2 :: o3 :: o4 :: o5 :: o6 :: o7 :: o8 :: t) = true) (k : J G base X cs sl M (pc + 2) (o0 :: o1 :: o2 :: o3 :: o4 :: o5 :: o6 :: o7 :: some (.int x) :: t) st) : J G base X cs sl M pc (o0 :: o1 :: o2 :: o3 :: o4 :: o5 :: o6 :: o7 :: o8 :: t) (.int x :: st) := r_ist (ls := o0 :: o1 :: o2 :: o3 :: o4 :: o5 :: o6 :: o7 :: o8 :: t) hX hd (by show 8 < _; simp; try omega) h1 k
theorem r_astore8 (hX : okX G base X cc own nL ret d mc ms post) {o0 o1 o2 o3 o4 o5 o6 o7 o8 : Option Value} {t : List (Option Value)} {x : Nat} (hd : decode cc pc = .ok (.astore 8, 2)) (h1 : lc1 (o0 :: o1 :: o2 :: o3 :: o4 :: o5 :: o6 :: o7 :: o8 :: t) = true) (k : J G base X cs sl M (pc + 2) (o0 :: o1 :: o2 :: o3 :: o4 :: o5 :: o6 :: o7 :: some (.ref x) :: t) st) : J G base X cs sl M pc (o0 :: o1 :: o2 :: o3 :: o4 :: o5 :: o6 :: o7 :: o8 :: t) (.ref x :: st) := r_ast (ls := o0 :: o1 :: o2 :: o3 :: o4 :: o5 :: o6 :: o7 :: o8 :: t) hX hd (by show 8 < _; simp; try omega) h1 k
theorem r_iinc8 (hX : okX G base X cc own nL ret d mc ms post) {o0 o1 o2 o3 o4 o5 o6 o7 : Option Value} {t : List (Option Value)} {x : Int32} {n : Int} (hd : decode cc pc = .ok (.iinc 8 n, 3)) (h1 : lc1 (o0 :: o1 :: o2 :: o3 :: o4 :: o5 :: o6 :: o7 :: some (.int x) :: t) = true) (k : J G base X cs sl M (pc + 3) (o0 :: o1 :: o2 :: o3 :: o4 :: o5 :: o6 :: o7 :: some (.int (x + Int32.ofInt n)) :: t) st) : J G base X cs sl M pc (o0 :: o1 :: o2 :: o3 :: o4 :: o5 :: o6 :: o7 :: some (.int x) :: t) st := r_iinc (ls := o0 :: o1 :: o2 :: o3 :: o4 :: o5 :: o6 :: o7 :: some (.int x) :: t) hX hd (by simp) rfl h1 k
theorem r_istore9 (hX : okX G base X cc own nL ret d mc ms post) {o0 o1 o2 o3 o4 o5 o6 o7 o8 o9 : Option Value} {t : List (Option Value)} {x : Int32} (hd : decode cc pc = .ok (.istore 9, 2)) (h1 : lc1 (o0 :: o1 :: o2 :: o3 :: o4 :: o5 :: o6 :: o7 :: o8 :: o9 :: t) = true) (k : J G base X cs sl M (pc + 2) (o0 :: o1 :: o2 :: o3 :: o4 :: o5 :: o6 :: o7 :: o8 :: some (.int x) :: t) st) : J G base X cs sl M pc (o0 :: o1 :: o2 :: o3 :: o4 :: o5 :: o6 :: o7 :: o8 :: o9 :: t) (.int x :: st) := r_ist (ls := o0 :: o1 :: o2 :: o3 :: o4 :: o5 :: o6 :: o7 :: o8 :: o9 :: t) hX hd (by show 9 < _; simp; try omega) h1 k
theorem r_astore9 (hX : okX G base X cc own nL ret d mc ms post) {o0 o1 o2 o3 o4 o5 o6 o7 o8 o9 : Option Value} {t : List (Option Value)} {x : Nat} (hd : decode cc pc = .ok (.astore 9, 2)) (h1 : lc1 (o0 :: o1 :: o2 :: o3 :: o4 :: o5 :: o6 :: o7 :: o8 :: o9 :: t) = true) (k : J G base X cs sl M (pc + 2) (o0 :: o1 :: o2 :: o3 :: o4 :: o5 :: o6 :: o7 :: o8 :: some (.ref x) :: t) st) : J G base X cs sl M pc (o0 :: o1 :: o2 :: o3 :: o4 :: o5 :: o6 :: o7 :: o8 :: o9 :: t) (.ref x :: st) := r_ast (ls := o0 :: o1 :: o2 :: o3 :: o4 :: o5 :: o6 :: o7 :: o8 :: o9 :: t) hX hd (by show 9 < _; simp; try omega) h1 k
theorem r_iinc9 (hX : okX G base X cc own nL ret d mc ms post) {o0 o1 o2 o3 o4 o5 o6 o7 o8 : Option Value} {t : List (Option Value)} {x : Int32} {n : Int} (hd : decode cc pc = .ok (.iinc 9 n, 3)) (h1 : lc1 (o0 :: o1 :: o2 :: o3 :: o4 :: o5 :: o6 :: o7 :: o8 :: some (.int x) :: t) = true) (k : J G base X cs sl M (pc + 3) (o0 :: o1 :: o2 :: o3 :: o4 :: o5 :: o6 :: o7 :: o8 :: some (.int (x + Int32.ofInt n)) :: t) st) : J G base X cs sl M pc (o0 :: o1 :: o2 :: o3 :: o4 :: o5 :: o6 :: o7 :: o8 :: some (.int x) :: t) st := r_iinc (ls := o0 :: o1 :: o2 :: o3 :: o4 :: o5 :: o6 :: o7 :: o8 :: some (.int x) :: t) hX hd (by simp) rfl h1 k
theorem r_istore10 (hX : okX G base X cc own nL ret d mc ms post) {o0 o1 o2 o3 o4 o5 o6 o7 o8 o9 o10 : Option Value} {t : List (Option Value)} {x : Int32} (hd : decode cc pc = .ok (.istore 10, 2)) (h1 : lc1 (o0 :: o1 :: o2 :: o3 :: o4 :: o5 :: o6 :: o7 :: o8 :: o9 :: o10 :: t) = true) (k : J G base X cs sl M (pc + 2) (o0 :: o1 :: o2 :: o3 :: o4 :: o5 :: o6 :: o7 :: o8 :: o9 :: some (.int x) :: t) st) : J G base X cs sl M pc (o0 :: o1 :: o2 :: o3 :: o4 :: o5 :: o6 :: o7 :: o8 :: o9 :: o10 :: t) (.int x :: st) := r_ist (ls := o0 :: o1 :: o2 :: o3 :: o4 :: o5 :: o6 :: o7 :: o8 :: o9 :: o10 :: t) hX hd (by show 10 < _; simp; try omega) h1 k
theorem r_astore10 (hX : okX G base X cc own nL ret d mc ms post) {o0 o1 o2 o3 o4 o5 o6 o7 o8 o9 o10 : Option Value} {t : List (Option Value)} {x : Nat} (hd : decode cc pc = .ok (.astore 10, 2)) (h1 : lc1 (o0 :: o1 :: o2 :: o3 :: o4 :: o5 :: o6 :: o7 :: o8 :: o9 :: o10 :: t) = true) (k : J G base X cs sl M (pc + 2) (o0 :: o1 :: o2 :: o3 :: o4 :: o5 :: o6 :: o7 :: o8 :: o9 :: some (.ref x) :: t) st) : J G base X cs sl M pc (o0 :: o1 :: o2 :: o3 :: o4 :: o5 :: o6 :: o7 :: o8 :: o9 :: o10 :: t) (.ref x :: st) := r_ast (ls := o0 :: o1 :: o2 :: o3 :: o4 :: o5 :: o6 :: o7 :: o8 :: o9 :: o10 :: t) hX hd (by show 10 < _; simp; try omega) h1 k
theorem r_iinc10 (hX : okX G base X cc own nL ret d mc ms post) {o0 o1 o2 o3 o4 o5 o6 o7 o8 o9 : Option Value} {t : List (Option Value)} {x : Int32} {n : Int} (hd : decode cc pc = .ok (.iinc 10 n, 3)) (h1 : lc1 (o0 :: o1 :: o2 :: o3 :: o4 :: o5 :: o6 :: o7 :: o8 :: o9 :: some (.int x) :: t) = true) (k : J G base X cs sl M (pc + 3) (o0 :: o1 :: o2 :: o3 :: o4 :: o5 :: o6 :: o7 :: o8 :: o9 :: some (.int (x + Int32.ofInt n)) :: t) st) : J G base X cs sl M pc (o0 :: o1 :: o2 :: o3 :: o4 :: o5 :: o6 :: o7 :: o8 :: o9 :: some (.int x) :: t) st := r_iinc (ls := o0 :: o1 :: o2 :: o3 :: o4 :: o5 :: o6 :: o7 :: o8 :: o9 :: some (.int x) :: t) hX hd (by simp) rfl h1 k
theorem r_istore11 (hX : okX G base X cc own nL ret d mc ms post) {o0 o1 o2 o3 o4 o5 o6 o7 o8 o9 o10 o11 : Option Value} {t : List (Option Value)} {x : Int32} (hd : decode cc pc = .ok (.istore 11, 2)) (h1 : lc1 (o0 :: o1 :: o2 :: o3 :: o4 :: o5 :: o6 :: o7 :: o8 :: o9 :: o10 :: o11 :: t) = true) (k : J G base X cs sl M (pc + 2) (o0 :: o1 :: o2 :: o3 :: o4 :: o5 :: o6 :: o7 :: o8 :: o9 :: o10 :: some (.int x) :: t) st) : J G base X cs sl M pc (o0 :: o1 :: o2 :: o3 :: o4 :: o5 :: o6 :: o7 :: o8 :: o9 :: o10 :: o11 :: t) (.int x :: st) := r_ist (ls := o0 :: o1 :: o2 :: o3 :: o4 :: o5 :: o6 :: o7 :: o8 :: o9 :: o10 :: o11 :: t) hX hd (by show 11 < _; simp; try omega) h1 k
theorem r_astore11 (hX : okX G base X cc own nL ret d mc ms post) {o0 o1 o2 o3 o4 o5 o6 o7 o8 o9 o10 o11 : Option Value} {t : List (Option Value)} {x : Nat} (hd : decode cc pc = .ok (.astore 11, 2)) (h1 : lc1 (o0 :: o1 :: o2 :: o3 :: o4 :: o5 :: o6 :: o7 :: o8 :: o9 :: o10 :: o11 :: t) = true) (k : J G base X cs sl M (pc + 2) (o0 :: o1 :: o2 :: o3 :: o4 :: o5 :: o6 :: o7 :: o8 :: o9 :: o10 :: some (.ref x) :: t) st) : J G base X cs sl M pc (o0 :: o1 :: o2 :: o3 :: o4 :: o5 :: o6 :: o7 :: o8 :: o9 :: o10 :: o11 :: t) (.ref x :: st) := r_ast (ls := o0 :: o1 :: o2 :: o3 :: o4 :: o5 :: o6 :: o7 :: o8 :: o9 :: o10 :: o11 :: t) hX hd (by show 11 < _; simp; try omega) h1 k
theorem r_iinc11 (hX : okX G base X cc own nL ret d mc ms post) {o0 o1 o2 o3 o4 o5 o6 o7 o8 o9 o10 : Option Value} {t : List (Option Value)} {x : Int32} {n : Int} (hd : decode cc pc = .ok (.iinc 11 n, 3)) (h1 : lc1 (o0 :: o1 :: o2 :: o3 :: o4 :: o5 :: o6 :: o7 :: o8 :: o9 :: o10 :: some (.int x) :: t) = true) (k : J G base X cs sl M (pc + 3) (o0 :: o1 :: o2 :: o3 :: o4 :: o5 :: o6 :: o7 :: o8 :: o9 :: o10 :: some (.int (x + Int32.ofInt n)) :: t) st) : J G base X cs sl M pc (o0 :: o1 :: o2 :: o3 :: o4 :: o5 :: o6 :: o7 :: o8 :: o9 :: o10 :: some (.int x) :: t) st := r_iinc (ls := o0 :: o1 :: o2 :: o3 :: o4 :: o5 :: o6 :: o7 :: o8 :: o9 :: o10 :: some (.int x) :: t) hX hd (by simp) rfl h1 k
theorem r_dup2 (hX : okX G base X cc own nL ret d mc ms post) {va vb : Value} (hd : decode cc pc = .ok (.dup2, 1)) (hva : va.category = 1) (hvb : vb.category = 1) (k : J G base X cs sl M (pc + 1) ls (va :: vb :: va :: vb :: st)) : J G base X cs sl M pc ls (va :: vb :: st) := by
  obtain ⟨p, l, e, R, s, m, args, below, meth, c, Q⟩ := X
  obtain ⟨hx, hb, hml, hown, hts, hamb, hlk, hst, hr, hR, hQ, hout⟩ := hX
  intro H locs lsA hM hS hl
  exact lv_dup2_11 hx hb hd hva hvb (k H locs lsA hM hS hl)
theorem r_ifnull (hX : okX G base X cc own nL ret d mc ms post) {x : Nat} {off : Int} (hd : decode cc pc = .ok (.ifnull off, 3)) (k : J G base X cs sl M (pc + 3) ls st) : J G base X cs sl M pc ls (.ref x :: st) := by
  obtain ⟨p, l, e, R, s, m, args, below, meth, c, Q⟩ := X
  obtain ⟨hx, hb, hml, hown, hts, hamb, hlk, hst, hr, hR, hQ, hout⟩ := hX
  intro H locs lsA hM hS hl
  exact lv_ifnull hx hb hd (k H locs lsA hM hS hl)
theorem r_ifnonnull (hX : okX G base X cc own nL ret d mc ms post) {x tgt : Nat} {off : Int} (hd : decode cc pc = .ok (.ifnonnull off, 3)) (ht : (pc : Int) + off = (tgt : Int)) (k : J G base X cs sl M tgt ls st) : J G base X cs sl M pc ls (.ref x :: st) := by
  obtain ⟨p, l, e, R, s, m, args, below, meth, c, Q⟩ := X
  obtain ⟨hx, hb, hml, hown, hts, hamb, hlk, hst, hr, hR, hQ, hout⟩ := hX
  intro H locs lsA hM hS hl
  exact lv_ifnonnull hx hb hd ht (k H locs lsA hM hS hl)
theorem r_anull (hX : okX G base X cc own nL ret d mc ms post) (hd : decode cc pc = .ok (.aconst_null, 1)) (k : J G base X cs sl M (pc + 1) ls (.null :: st)) : J G base X cs sl M pc ls st := by
  obtain ⟨p, l, e, R, s, m, args, below, meth, c, Q⟩ := X
  obtain ⟨hx, hb, hml, hown, hts, hamb, hlk, hst, hr, hR, hQ, hout⟩ := hX
  intro H locs lsA hM hS hl
  exact lv_null hx hb hd (k H locs lsA hM hS hl)
theorem r_tabIn (hX : okX G base X cc own nL ret d mc ms post) {dflt lo hi : Int} {offs : Array Int} {len : Nat} {x : Int32} {off : Int} {tgt : Nat} (hd : decode cc pc = .ok (.tableswitch dflt lo hi offs, len)) (h1 : ¬ x.toInt < lo) (h2 : ¬ hi < x.toInt) (ho : offs[(x.toInt - lo).toNat]? = some off) (ht : (pc : Int) + off = (tgt : Int)) (k : J G base X cs sl M tgt ls st) : J G base X cs sl M pc ls (.int x :: st) := by
  obtain ⟨p, l, e, R, s, m, args, below, meth, c, Q⟩ := X
  obtain ⟨hx, hb, hml, hown, hts, hamb, hlk, hst, hr, hR, hQ, hout⟩ := hX
  intro H locs lsA hM hS hl
  exact lv_tableIn hx hb hd h1 h2 ho ht (k H locs lsA hM hS hl)
theorem r_tabOut (hX : okX G base X cc own nL ret d mc ms post) {dflt lo hi : Int} {offs : Array Int} {len : Nat} {x : Int32} {tgt : Nat} (hd : decode cc pc = .ok (.tableswitch dflt lo hi offs, len)) (h : x.toInt < lo ∨ hi < x.toInt) (ht : (pc : Int) + dflt = (tgt : Int)) (k : J G base X cs sl M tgt ls st) : J G base X cs sl M pc ls (.int x :: st) := by
  obtain ⟨p, l, e, R, s, m, args, below, meth, c, Q⟩ := X
  obtain ⟨hx, hb, hml, hown, hts, hamb, hlk, hst, hr, hR, hQ, hout⟩ := hX
  intro H locs lsA hM hS hl
  exact lv_tableOut hx hb hd h ht (k H locs lsA hM hS hl)
end SR
/-- the ints written anew -/
def wI (M : Mm) (i : Nat → Nat → Int32) : Mm := (M.1, M.2.1, i, M.2.2.2)
/-- it returns v, and leaves the memory as M' -/
def rE (v : Option Value) (M' : Mm) : Ot → Mm → Prop := fun o N => o = .inl v ∧ N = M'
/-- it returns v, and the ints are as P says -/
def rI (v : Option Value) (M : Mm) (P : (Nat → Nat → Int32) → Prop) : Ot → Mm → Prop := fun o N => o = .inl v ∧ ∃ i, N = wI M i ∧ P i
/-- .. some int -/
def rV (M : Mm) (P : Int32 → (Nat → Nat → Int32) → Prop) : Ot → Mm → Prop := fun o N => ∃ (x : Int32) (i : Nat → Nat → Int32), o = .inl (some (.int x)) ∧ N = wI M i ∧ P x i
theorem rI_nx {v : Option Value} {M : Mm} {P : (Nat → Nat → Int32) → Prop} (E : String) (N : Mm) : ¬ rI v M P (.inr E) N := fun h => by cases h.1
theorem rV_nx {M : Mm} {P : Int32 → (Nat → Nat → Int32) → Prop} (E : String) (N : Mm) : ¬ rV M P (.inr E) N := fun ⟨_, _, h, _⟩ => by cases h
/-- the memory's ints get a name -/
theorem J.gen {G : GG} {base : Nat} {X : Cx} {cs sl : Nat} {M M0 : Mm} {pc : Nat} {ls : List (Option Value)} {st : List Value} (hM : M = wI M0 (mI M)) (k : ∀ i : Nat → Nat → Int32, (∀ x j, i x j = mI M x j) → J G base X cs sl (wI M0 i) pc ls st) : J G base X cs sl M pc ls st := by
  rw [hM]
  exact k (mI M) (fun _ _ => rfl)
theorem mI_wI (M : Mm) (i : Nat → Nat → Int32) (x j : Nat) : mI (wI M i) x j = i x j := rfl
/-- it throws E, the memory stays -/
def rT (E : String) (M : Mm) : Ot → Mm → Prop := fun o N => o = .inr E ∧ N = fT M
