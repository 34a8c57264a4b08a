/-! THE REFERENCE: its graph; what ties its data to the class's -/
def qMo (s : qS) (m : Nat) : Prop := qk s m = 13 ∧ (qr s m 5 = m + 1 ∧ qk s (m + 1) = 22 ∧ qz s (m + 1) = 1100) ∧ (qr s m 16 = m + 2 ∧ qk s (m + 2) = 20 ∧ qz s (m + 2) = 49) ∧ (qr s m 17 = m + 3 ∧ qk s (m + 3) = 20 ∧ qz s (m + 3) = 784) ∧ (qr s m 18 = m + 4 ∧ qk s (m + 4) = 20 ∧ qz s (m + 4) = 147) ∧ (qr s m 21 = m + 5 ∧ qk s (m + 5) = 20 ∧ qz s (m + 5) = 6) ∧ (qr s m 22 = m + 6 ∧ qk s (m + 6) = 20 ∧ qz s (m + 6) = 6) ∧ (qr s m 23 = m + 7 ∧ qk s (m + 7) = 20 ∧ qz s (m + 7) = 120) ∧ (qr s m 24 = m + 8 ∧ qk s (m + 8) = 20 ∧ qz s (m + 8) = 120) ∧ (qr s m 25 = m + 9 ∧ qk s (m + 9) = 20 ∧ qz s (m + 9) = 120) ∧ (qr s m 26 = m + 10 ∧ qk s (m + 10) = 20 ∧ qz s (m + 10) = 6) ∧ (qr s m 27 = m + 11 ∧ qk s (m + 11) = 20 ∧ qz s (m + 11) = 6) ∧ (qr s m 29 = m + 12 ∧ qk s (m + 12) = 20 ∧ qz s (m + 12) = 6000) ∧ (qr s m 30 = m + 13 ∧ qk s (m + 13) = 20 ∧ qz s (m + 13) = 1000) ∧ (qr s m 31 = m + 14 ∧ qk s (m + 14) = 20 ∧ qz s (m + 14) = 6) ∧ (qr s m 32 = m + 15 ∧ qk s (m + 15) = 20 ∧ qz s (m + 15) = 6) ∧ (qr s m 40 = m + 16 ∧ qk s (m + 16) = 20 ∧ qz s (m + 16) = 160) ∧ (qr s m 43 = m + 17 ∧ qk s (m + 17) = 20 ∧ qz s (m + 17) = 6) ∧ (qr s m 44 = m + 18 ∧ qk s (m + 18) = 20 ∧ qz s (m + 18) = 6)
section QMO
variable {s : qS} {m : Nat}
theorem mo_k (h : qMo s m) : qk s m = 13 := h.1
theorem mo_r5 (h : qMo s m) : qr s m 5 = m + 1 := h.2.1.1
theorem mo_k5 (h : qMo s m) : qk s (m + 1) = 22 := h.2.1.2.1
theorem mo_z5 (h : qMo s m) : qz s (m + 1) = 1100 := h.2.1.2.2
theorem mo_r16 (h : qMo s m) : qr s m 16 = m + 2 := h.2.2.1.1
theorem mo_k16 (h : qMo s m) : qk s (m + 2) = 20 := h.2.2.1.2.1
theorem mo_z16 (h : qMo s m) : qz s (m + 2) = 49 := h.2.2.1.2.2
theorem mo_r17 (h : qMo s m) : qr s m 17 = m + 3 := h.2.2.2.1.1
theorem mo_k17 (h : qMo s m) : qk s (m + 3) = 20 := h.2.2.2.1.2.1
theorem mo_z17 (h : qMo s m) : qz s (m + 3) = 784 := h.2.2.2.1.2.2
theorem mo_r18 (h : qMo s m) : qr s m 18 = m + 4 := h.2.2.2.2.1.1
theorem mo_k18 (h : qMo s m) : qk s (m + 4) = 20 := h.2.2.2.2.1.2.1
theorem mo_z18 (h : qMo s m) : qz s (m + 4) = 147 := h.2.2.2.2.1.2.2
theorem mo_r21 (h : qMo s m) : qr s m 21 = m + 5 := h.2.2.2.2.2.1.1
theorem mo_k21 (h : qMo s m) : qk s (m + 5) = 20 := h.2.2.2.2.2.1.2.1
theorem mo_z21 (h : qMo s m) : qz s (m + 5) = 6 := h.2.2.2.2.2.1.2.2
theorem mo_r22 (h : qMo s m) : qr s m 22 = m + 6 := h.2.2.2.2.2.2.1.1
theorem mo_k22 (h : qMo s m) : qk s (m + 6) = 20 := h.2.2.2.2.2.2.1.2.1
theorem mo_z22 (h : qMo s m) : qz s (m + 6) = 6 := h.2.2.2.2.2.2.1.2.2
theorem mo_r23 (h : qMo s m) : qr s m 23 = m + 7 := h.2.2.2.2.2.2.2.1.1
theorem mo_k23 (h : qMo s m) : qk s (m + 7) = 20 := h.2.2.2.2.2.2.2.1.2.1
theorem mo_z23 (h : qMo s m) : qz s (m + 7) = 120 := h.2.2.2.2.2.2.2.1.2.2
theorem mo_r24 (h : qMo s m) : qr s m 24 = m + 8 := h.2.2.2.2.2.2.2.2.1.1
theorem mo_k24 (h : qMo s m) : qk s (m + 8) = 20 := h.2.2.2.2.2.2.2.2.1.2.1
theorem mo_z24 (h : qMo s m) : qz s (m + 8) = 120 := h.2.2.2.2.2.2.2.2.1.2.2
theorem mo_r25 (h : qMo s m) : qr s m 25 = m + 9 := h.2.2.2.2.2.2.2.2.2.1.1
theorem mo_k25 (h : qMo s m) : qk s (m + 9) = 20 := h.2.2.2.2.2.2.2.2.2.1.2.1
theorem mo_z25 (h : qMo s m) : qz s (m + 9) = 120 := h.2.2.2.2.2.2.2.2.2.1.2.2
theorem mo_r26 (h : qMo s m) : qr s m 26 = m + 10 := h.2.2.2.2.2.2.2.2.2.2.1.1
theorem mo_k26 (h : qMo s m) : qk s (m + 10) = 20 := h.2.2.2.2.2.2.2.2.2.2.1.2.1
theorem mo_z26 (h : qMo s m) : qz s (m + 10) = 6 := h.2.2.2.2.2.2.2.2.2.2.1.2.2
theorem mo_r27 (h : qMo s m) : qr s m 27 = m + 11 := h.2.2.2.2.2.2.2.2.2.2.2.1.1
theorem mo_k27 (h : qMo s m) : qk s (m + 11) = 20 := h.2.2.2.2.2.2.2.2.2.2.2.1.2.1
theorem mo_z27 (h : qMo s m) : qz s (m + 11) = 6 := h.2.2.2.2.2.2.2.2.2.2.2.1.2.2
theorem mo_r29 (h : qMo s m) : qr s m 29 = m + 12 := h.2.2.2.2.2.2.2.2.2.2.2.2.1.1
theorem mo_k29 (h : qMo s m) : qk s (m + 12) = 20 := h.2.2.2.2.2.2.2.2.2.2.2.2.1.2.1
theorem mo_z29 (h : qMo s m) : qz s (m + 12) = 6000 := h.2.2.2.2.2.2.2.2.2.2.2.2.1.2.2
theorem mo_r30 (h : qMo s m) : qr s m 30 = m + 13 := h.2.2.2.2.2.2.2.2.2.2.2.2.2.1.1
theorem mo_k30 (h : qMo s m) : qk s (m + 13) = 20 := h.2.2.2.2.2.2.2.2.2.2.2.2.2.1.2.1
theorem mo_z30 (h : qMo s m) : qz s (m + 13) = 1000 := h.2.2.2.2.2.2.2.2.2.2.2.2.2.1.2.2
theorem mo_r31 (h : qMo s m) : qr s m 31 = m + 14 := h.2.2.2.2.2.2.2.2.2.2.2.2.2.2.1.1
theorem mo_k31 (h : qMo s m) : qk s (m + 14) = 20 := h.2.2.2.2.2.2.2.2.2.2.2.2.2.2.1.2.1
theorem mo_z31 (h : qMo s m) : qz s (m + 14) = 6 := h.2.2.2.2.2.2.2.2.2.2.2.2.2.2.1.2.2
theorem mo_r32 (h : qMo s m) : qr s m 32 = m + 15 := h.2.2.2.2.2.2.2.2.2.2.2.2.2.2.2.1.1
theorem mo_k32 (h : qMo s m) : qk s (m + 15) = 20 := h.2.2.2.2.2.2.2.2.2.2.2.2.2.2.2.1.2.1
theorem mo_z32 (h : qMo s m) : qz s (m + 15) = 6 := h.2.2.2.2.2.2.2.2.2.2.2.2.2.2.2.1.2.2
theorem mo_r40 (h : qMo s m) : qr s m 40 = m + 16 := h.2.2.2.2.2.2.2.2.2.2.2.2.2.2.2.2.1.1
theorem mo_k40 (h : qMo s m) : qk s (m + 16) = 20 := h.2.2.2.2.2.2.2.2.2.2.2.2.2.2.2.2.1.2.1
theorem mo_z40 (h : qMo s m) : qz s (m + 16) = 160 := h.2.2.2.2.2.2.2.2.2.2.2.2.2.2.2.2.1.2.2
theorem mo_r43 (h : qMo s m) : qr s m 43 = m + 17 := h.2.2.2.2.2.2.2.2.2.2.2.2.2.2.2.2.2.1.1
theorem mo_k43 (h : qMo s m) : qk s (m + 17) = 20 := h.2.2.2.2.2.2.2.2.2.2.2.2.2.2.2.2.2.1.2.1
theorem mo_z43 (h : qMo s m) : qz s (m + 17) = 6 := h.2.2.2.2.2.2.2.2.2.2.2.2.2.2.2.2.2.1.2.2
theorem mo_r44 (h : qMo s m) : qr s m 44 = m + 18 := h.2.2.2.2.2.2.2.2.2.2.2.2.2.2.2.2.2.2.1
theorem mo_k44 (h : qMo s m) : qk s (m + 18) = 20 := h.2.2.2.2.2.2.2.2.2.2.2.2.2.2.2.2.2.2.2.1
theorem mo_z44 (h : qMo s m) : qz s (m + 18) = 6 := h.2.2.2.2.2.2.2.2.2.2.2.2.2.2.2.2.2.2.2.2
end QMO
def qMf (s : qS) (f : Nat) : Prop := qk s f = 12 ∧ (qr s f 14 = f + 1 ∧ qk s (f + 1) = 20 ∧ qz s (f + 1) = 8) ∧ (qr s f 15 = f + 2 ∧ qk s (f + 2) = 20 ∧ qz s (f + 2) = 64) ∧ (qr s f 16 = f + 3 ∧ qk s (f + 3) = 20 ∧ qz s (f + 3) = 64) ∧ (qr s f 17 = f + 4 ∧ qk s (f + 4) = 20 ∧ qz s (f + 4) = 6) ∧ (qr s f 18 = f + 5 ∧ qk s (f + 5) = 20 ∧ qz s (f + 5) = 6) ∧ (qr s f 19 = f + 6 ∧ qk s (f + 6) = 20 ∧ qz s (f + 6) = 6) ∧ (qr s f 20 = f + 7 ∧ qk s (f + 7) = 20 ∧ qz s (f + 7) = 6) ∧ (qr s f 21 = f + 8 ∧ qk s (f + 8) = 20 ∧ qz s (f + 8) = 6) ∧ (qr s f 22 = f + 9 ∧ qk s (f + 9) = 20 ∧ qz s (f + 9) = 30) ∧ (qr s f 23 = f + 10 ∧ qk s (f + 10) = 20 ∧ qz s (f + 10) = 6) ∧ (qr s f 24 = f + 11 ∧ qk s (f + 11) = 20 ∧ qz s (f + 11) = 8) ∧ (qr s f 25 = f + 12 ∧ qk s (f + 12) = 20 ∧ qz s (f + 12) = 8) ∧ (qr s f 26 = f + 13 ∧ qk s (f + 13) = 20 ∧ qz s (f + 13) = 8) ∧ (qr s f 27 = f + 14 ∧ qk s (f + 14) = 20 ∧ qz s (f + 14) = 6) ∧ (qr s f 28 = f + 15 ∧ qk s (f + 15) = 20 ∧ qz s (f + 15) = 10) ∧ (qr s f 29 = f + 16 ∧ qk s (f + 16) = 20 ∧ qz s (f + 16) = 10) ∧ (qr s f 30 = f + 17 ∧ qk s (f + 17) = 20 ∧ qz s (f + 17) = 10) ∧ (qr s f 31 = f + 18 ∧ qk s (f + 18) = 20 ∧ qz s (f + 18) = 6) ∧ (qr s f 32 = f + 19 ∧ qk s (f + 19) = 20 ∧ qz s (f + 19) = 6) ∧ (qr s f 33 = f + 20 ∧ qk s (f + 20) = 20 ∧ qz s (f + 20) = 6) ∧ (qr s f 34 = f + 21 ∧ qk s (f + 21) = 21 ∧ qz s (f + 21) = 20) ∧ (qr s f 35 = f + 22 ∧ qk s (f + 22) = 20 ∧ qz s (f + 22) = 20) ∧ (qr s f 36 = f + 23 ∧ qk s (f + 23) = 20 ∧ qz s (f + 23) = 20)
section QMF
variable {s : qS} {f : Nat}
theorem mf_k (h : qMf s f) : qk s f = 12 := h.1
theorem mf_r14 (h : qMf s f) : qr s f 14 = f + 1 := h.2.1.1
theorem mf_k14 (h : qMf s f) : qk s (f + 1) = 20 := h.2.1.2.1
theorem mf_z14 (h : qMf s f) : qz s (f + 1) = 8 := h.2.1.2.2
theorem mf_r15 (h : qMf s f) : qr s f 15 = f + 2 := h.2.2.1.1
theorem mf_k15 (h : qMf s f) : qk s (f + 2) = 20 := h.2.2.1.2.1
theorem mf_z15 (h : qMf s f) : qz s (f + 2) = 64 := h.2.2.1.2.2
theorem mf_r16 (h : qMf s f) : qr s f 16 = f + 3 := h.2.2.2.1.1
theorem mf_k16 (h : qMf s f) : qk s (f + 3) = 20 := h.2.2.2.1.2.1
theorem mf_z16 (h : qMf s f) : qz s (f + 3) = 64 := h.2.2.2.1.2.2
theorem mf_r17 (h : qMf s f) : qr s f 17 = f + 4 := h.2.2.2.2.1.1
theorem mf_k17 (h : qMf s f) : qk s (f + 4) = 20 := h.2.2.2.2.1.2.1
theorem mf_z17 (h : qMf s f) : qz s (f + 4) = 6 := h.2.2.2.2.1.2.2
theorem mf_r18 (h : qMf s f) : qr s f 18 = f + 5 := h.2.2.2.2.2.1.1
theorem mf_k18 (h : qMf s f) : qk s (f + 5) = 20 := h.2.2.2.2.2.1.2.1
theorem mf_z18 (h : qMf s f) : qz s (f + 5) = 6 := h.2.2.2.2.2.1.2.2
theorem mf_r19 (h : qMf s f) : qr s f 19 = f + 6 := h.2.2.2.2.2.2.1.1
theorem mf_k19 (h : qMf s f) : qk s (f + 6) = 20 := h.2.2.2.2.2.2.1.2.1
theorem mf_z19 (h : qMf s f) : qz s (f + 6) = 6 := h.2.2.2.2.2.2.1.2.2
theorem mf_r20 (h : qMf s f) : qr s f 20 = f + 7 := h.2.2.2.2.2.2.2.1.1
theorem mf_k20 (h : qMf s f) : qk s (f + 7) = 20 := h.2.2.2.2.2.2.2.1.2.1
theorem mf_z20 (h : qMf s f) : qz s (f + 7) = 6 := h.2.2.2.2.2.2.2.1.2.2
theorem mf_r21 (h : qMf s f) : qr s f 21 = f + 8 := h.2.2.2.2.2.2.2.2.1.1
theorem mf_k21 (h : qMf s f) : qk s (f + 8) = 20 := h.2.2.2.2.2.2.2.2.1.2.1
theorem mf_z21 (h : qMf s f) : qz s (f + 8) = 6 := h.2.2.2.2.2.2.2.2.1.2.2
theorem mf_r22 (h : qMf s f) : qr s f 22 = f + 9 := h.2.2.2.2.2.2.2.2.2.1.1
theorem mf_k22 (h : qMf s f) : qk s (f + 9) = 20 := h.2.2.2.2.2.2.2.2.2.1.2.1
theorem mf_z22 (h : qMf s f) : qz s (f + 9) = 30 := h.2.2.2.2.2.2.2.2.2.1.2.2
theorem mf_r23 (h : qMf s f) : qr s f 23 = f + 10 := h.2.2.2.2.2.2.2.2.2.2.1.1
theorem mf_k23 (h : qMf s f) : qk s (f + 10) = 20 := h.2.2.2.2.2.2.2.2.2.2.1.2.1
theorem mf_z23 (h : qMf s f) : qz s (f + 10) = 6 := h.2.2.2.2.2.2.2.2.2.2.1.2.2
theorem mf_r24 (h : qMf s f) : qr s f 24 = f + 11 := h.2.2.2.2.2.2.2.2.2.2.2.1.1
theorem mf_k24 (h : qMf s f) : qk s (f + 11) = 20 := h.2.2.2.2.2.2.2.2.2.2.2.1.2.1
theorem mf_z24 (h : qMf s f) : qz s (f + 11) = 8 := h.2.2.2.2.2.2.2.2.2.2.2.1.2.2
theorem mf_r25 (h : qMf s f) : qr s f 25 = f + 12 := h.2.2.2.2.2.2.2.2.2.2.2.2.1.1
theorem mf_k25 (h : qMf s f) : qk s (f + 12) = 20 := h.2.2.2.2.2.2.2.2.2.2.2.2.1.2.1
theorem mf_z25 (h : qMf s f) : qz s (f + 12) = 8 := h.2.2.2.2.2.2.2.2.2.2.2.2.1.2.2
theorem mf_r26 (h : qMf s f) : qr s f 26 = f + 13 := h.2.2.2.2.2.2.2.2.2.2.2.2.2.1.1
theorem mf_k26 (h : qMf s f) : qk s (f + 13) = 20 := h.2.2.2.2.2.2.2.2.2.2.2.2.2.1.2.1
theorem mf_z26 (h : qMf s f) : qz s (f + 13) = 8 := h.2.2.2.2.2.2.2.2.2.2.2.2.2.1.2.2
theorem mf_r27 (h : qMf s f) : qr s f 27 = f + 14 := h.2.2.2.2.2.2.2.2.2.2.2.2.2.2.1.1
theorem mf_k27 (h : qMf s f) : qk s (f + 14) = 20 := h.2.2.2.2.2.2.2.2.2.2.2.2.2.2.1.2.1
theorem mf_z27 (h : qMf s f) : qz s (f + 14) = 6 := h.2.2.2.2.2.2.2.2.2.2.2.2.2.2.1.2.2
theorem mf_r28 (h : qMf s f) : qr s f 28 = f + 15 := h.2.2.2.2.2.2.2.2.2.2.2.2.2.2.2.1.1
theorem mf_k28 (h : qMf s f) : qk s (f + 15) = 20 := h.2.2.2.2.2.2.2.2.2.2.2.2.2.2.2.1.2.1
theorem mf_z28 (h : qMf s f) : qz s (f + 15) = 10 := h.2.2.2.2.2.2.2.2.2.2.2.2.2.2.2.1.2.2
theorem mf_r29 (h : qMf s f) : qr s f 29 = f + 16 := h.2.2.2.2.2.2.2.2.2.2.2.2.2.2.2.2.1.1
theorem mf_k29 (h : qMf s f) : qk s (f + 16) = 20 := h.2.2.2.2.2.2.2.2.2.2.2.2.2.2.2.2.1.2.1
theorem mf_z29 (h : qMf s f) : qz s (f + 16) = 10 := h.2.2.2.2.2.2.2.2.2.2.2.2.2.2.2.2.1.2.2
theorem mf_r30 (h : qMf s f) : qr s f 30 = f + 17 := h.2.2.2.2.2.2.2.2.2.2.2.2.2.2.2.2.2.1.1
theorem mf_k30 (h : qMf s f) : qk s (f + 17) = 20 := h.2.2.2.2.2.2.2.2.2.2.2.2.2.2.2.2.2.1.2.1
theorem mf_z30 (h : qMf s f) : qz s (f + 17) = 10 := h.2.2.2.2.2.2.2.2.2.2.2.2.2.2.2.2.2.1.2.2
theorem mf_r31 (h : qMf s f) : qr s f 31 = f + 18 := h.2.2.2.2.2.2.2.2.2.2.2.2.2.2.2.2.2.2.1.1
theorem mf_k31 (h : qMf s f) : qk s (f + 18) = 20 := h.2.2.2.2.2.2.2.2.2.2.2.2.2.2.2.2.2.2.1.2.1
theorem mf_z31 (h : qMf s f) : qz s (f + 18) = 6 := h.2.2.2.2.2.2.2.2.2.2.2.2.2.2.2.2.2.2.1.2.2
theorem mf_r32 (h : qMf s f) : qr s f 32 = f + 19 := h.2.2.2.2.2.2.2.2.2.2.2.2.2.2.2.2.2.2.2.1.1
theorem mf_k32 (h : qMf s f) : qk s (f + 19) = 20 := h.2.2.2.2.2.2.2.2.2.2.2.2.2.2.2.2.2.2.2.1.2.1
theorem mf_z32 (h : qMf s f) : qz s (f + 19) = 6 := h.2.2.2.2.2.2.2.2.2.2.2.2.2.2.2.2.2.2.2.1.2.2
theorem mf_r33 (h : qMf s f) : qr s f 33 = f + 20 := h.2.2.2.2.2.2.2.2.2.2.2.2.2.2.2.2.2.2.2.2.1.1
theorem mf_k33 (h : qMf s f) : qk s (f + 20) = 20 := h.2.2.2.2.2.2.2.2.2.2.2.2.2.2.2.2.2.2.2.2.1.2.1
theorem mf_z33 (h : qMf s f) : qz s (f + 20) = 6 := h.2.2.2.2.2.2.2.2.2.2.2.2.2.2.2.2.2.2.2.2.1.2.2
theorem mf_r34 (h : qMf s f) : qr s f 34 = f + 21 := h.2.2.2.2.2.2.2.2.2.2.2.2.2.2.2.2.2.2.2.2.2.1.1
theorem mf_k34 (h : qMf s f) : qk s (f + 21) = 21 := h.2.2.2.2.2.2.2.2.2.2.2.2.2.2.2.2.2.2.2.2.2.1.2.1
theorem mf_z34 (h : qMf s f) : qz s (f + 21) = 20 := h.2.2.2.2.2.2.2.2.2.2.2.2.2.2.2.2.2.2.2.2.2.1.2.2
theorem mf_r35 (h : qMf s f) : qr s f 35 = f + 22 := h.2.2.2.2.2.2.2.2.2.2.2.2.2.2.2.2.2.2.2.2.2.2.1.1
theorem mf_k35 (h : qMf s f) : qk s (f + 22) = 20 := h.2.2.2.2.2.2.2.2.2.2.2.2.2.2.2.2.2.2.2.2.2.2.1.2.1
theorem mf_z35 (h : qMf s f) : qz s (f + 22) = 20 := h.2.2.2.2.2.2.2.2.2.2.2.2.2.2.2.2.2.2.2.2.2.2.1.2.2
theorem mf_r36 (h : qMf s f) : qr s f 36 = f + 23 := h.2.2.2.2.2.2.2.2.2.2.2.2.2.2.2.2.2.2.2.2.2.2.2.1
theorem mf_k36 (h : qMf s f) : qk s (f + 23) = 20 := h.2.2.2.2.2.2.2.2.2.2.2.2.2.2.2.2.2.2.2.2.2.2.2.2.1
theorem mf_z36 (h : qMf s f) : qz s (f + 23) = 20 := h.2.2.2.2.2.2.2.2.2.2.2.2.2.2.2.2.2.2.2.2.2.2.2.2.2
end QMF
def q_mm (I : qI) (m : Nat) (xi xl xp xs xf xa xt : Nat → Int32) (sd : Int32) : qI := fun a => if a = m then (q_set (I m) 28 sd) else if a = m + 5 then xi else if a = m + 6 then xl else if a = m + 7 then xp else if a = m + 8 then xs else if a = m + 9 then xf else if a = m + 10 then xa else if a = m + 11 then xt else I a
section q_mm_F
variable {I : qI} {m : Nat} {xi xl xp xs xf xa xt f : Nat → Int32} {sd v : Int32}
theorem q_mm_o : q_mm I m xi xl xp xs xf xa xt sd m = (q_set (I m) 28 sd) := if_pos rfl
theorem q_mm_xi : q_mm I m xi xl xp xs xf xa xt sd (m + 5) = xi := by
  unfold q_mm
  rw [if_neg (by omega), if_pos rfl]
theorem q_mm_uxi : q_up (q_mm I m xi xl xp xs xf xa xt sd) (m + 5) f = q_mm I m f xl xp xs xf xa xt sd := by
  funext a
  unfold q_up q_mm
  by_cases h : a = m + 5
  · subst h
    rw [if_pos rfl, if_neg (by omega), if_pos rfl]
  · rw [if_neg h]
    by_cases h0 : a = m
    · rw [if_pos h0, if_pos h0]
    · rw [if_neg h0, if_neg h0]
      simp only [h, if_false]
theorem q_mm_xl : q_mm I m xi xl xp xs xf xa xt sd (m + 6) = xl := by
  unfold q_mm
  rw [if_neg (by omega), if_neg (by omega), if_pos rfl]
theorem q_mm_uxl : q_up (q_mm I m xi xl xp xs xf xa xt sd) (m + 6) f = q_mm I m xi f xp xs xf xa xt sd := by
  funext a
  unfold q_up q_mm
  by_cases h : a = m + 6
  · subst h
    rw [if_pos rfl, if_neg (by omega), if_neg (by omega), if_pos rfl]
  · rw [if_neg h]
    by_cases h0 : a = m
    · rw [if_pos h0, if_pos h0]
    · rw [if_neg h0, if_neg h0]
      simp only [h, if_false]
theorem q_mm_xp : q_mm I m xi xl xp xs xf xa xt sd (m + 7) = xp := by
  unfold q_mm
  rw [if_neg (by omega), if_neg (by omega), if_neg (by omega), if_pos rfl]
theorem q_mm_uxp : q_up (q_mm I m xi xl xp xs xf xa xt sd) (m + 7) f = q_mm I m xi xl f xs xf xa xt sd := by
  funext a
  unfold q_up q_mm
  by_cases h : a = m + 7
  · subst h
    rw [if_pos rfl, if_neg (by omega), if_neg (by omega), if_neg (by omega), if_pos rfl]
  · rw [if_neg h]
    by_cases h0 : a = m
    · rw [if_pos h0, if_pos h0]
    · rw [if_neg h0, if_neg h0]
      simp only [h, if_false]
theorem q_mm_xs : q_mm I m xi xl xp xs xf xa xt sd (m + 8) = xs := by
  unfold q_mm
  rw [if_neg (by omega), if_neg (by omega), if_neg (by omega), if_neg (by omega), if_pos rfl]
theorem q_mm_uxs : q_up (q_mm I m xi xl xp xs xf xa xt sd) (m + 8) f = q_mm I m xi xl xp f xf xa xt sd := by
  funext a
  unfold q_up q_mm
  by_cases h : a = m + 8
  · subst h
    rw [if_pos rfl, if_neg (by omega), if_neg (by omega), if_neg (by omega), if_neg (by omega), if_pos rfl]
  · rw [if_neg h]
    by_cases h0 : a = m
    · rw [if_pos h0, if_pos h0]
    · rw [if_neg h0, if_neg h0]
      simp only [h, if_false]
theorem q_mm_xf : q_mm I m xi xl xp xs xf xa xt sd (m + 9) = xf := by
  unfold q_mm
  rw [if_neg (by omega), if_neg (by omega), if_neg (by omega), if_neg (by omega), if_neg (by omega), if_pos rfl]
theorem q_mm_uxf : q_up (q_mm I m xi xl xp xs xf xa xt sd) (m + 9) f = q_mm I m xi xl xp xs f xa xt sd := by
  funext a
  unfold q_up q_mm
  by_cases h : a = m + 9
  · subst h
    rw [if_pos rfl, if_neg (by omega), if_neg (by omega), if_neg (by omega), if_neg (by omega), if_neg (by omega), if_pos rfl]
  · rw [if_neg h]
    by_cases h0 : a = m
    · rw [if_pos h0, if_pos h0]
    · rw [if_neg h0, if_neg h0]
      simp only [h, if_false]
theorem q_mm_xa : q_mm I m xi xl xp xs xf xa xt sd (m + 10) = xa := by
  unfold q_mm
  rw [if_neg (by omega), if_neg (by omega), if_neg (by omega), if_neg (by omega), if_neg (by omega), if_neg (by omega), if_pos rfl]
theorem q_mm_uxa : q_up (q_mm I m xi xl xp xs xf xa xt sd) (m + 10) f = q_mm I m xi xl xp xs xf f xt sd := by
  funext a
  unfold q_up q_mm
  by_cases h : a = m + 10
  · subst h
    rw [if_pos rfl, if_neg (by omega), if_neg (by omega), if_neg (by omega), if_neg (by omega), if_neg (by omega), if_neg (by omega), if_pos rfl]
  · rw [if_neg h]
    by_cases h0 : a = m
    · rw [if_pos h0, if_pos h0]
    · rw [if_neg h0, if_neg h0]
      simp only [h, if_false]
theorem q_mm_xt : q_mm I m xi xl xp xs xf xa xt sd (m + 11) = xt := by
  unfold q_mm
  rw [if_neg (by omega), if_neg (by omega), if_neg (by omega), if_neg (by omega), if_neg (by omega), if_neg (by omega), if_neg (by omega), if_pos rfl]
theorem q_mm_uxt : q_up (q_mm I m xi xl xp xs xf xa xt sd) (m + 11) f = q_mm I m xi xl xp xs xf xa f sd := by
  funext a
  unfold q_up q_mm
  by_cases h : a = m + 11
  · subst h
    rw [if_pos rfl, if_neg (by omega), if_neg (by omega), if_neg (by omega), if_neg (by omega), if_neg (by omega), if_neg (by omega), if_neg (by omega), if_pos rfl]
  · rw [if_neg h]
    by_cases h0 : a = m
    · rw [if_pos h0, if_pos h0]
    · rw [if_neg h0, if_neg h0]
      simp only [h, if_false]
theorem q_mm_usd : q_up (q_mm I m xi xl xp xs xf xa xt sd) m (q_set (q_set (I m) 28 sd) 28 v) = q_mm I m xi xl xp xs xf xa xt v := by
  funext a
  unfold q_up q_mm
  by_cases h : a = m
  · rw [if_pos h, if_pos h]
    funext j
    simp only [q_set]
    repeat (split <;> try rfl)
    all_goals (first | rfl | (exfalso; omega))
  · rw [if_neg h, if_neg h, if_neg h]
theorem q_mm_gsd : (q_set (I m) 28 sd) 28 = sd := by
  simp [q_set]
theorem q_mm_out {a : Nat} (h : a < m ∨ m + 19 ≤ a) : q_mm I m xi xl xp xs xf xa xt sd a = I a := by
  unfold q_mm
  rw [if_neg (by omega), if_neg (by omega), if_neg (by omega), if_neg (by omega), if_neg (by omega), if_neg (by omega), if_neg (by omega), if_neg (by omega)]
theorem q_mm_self : q_mm I m (I (m + 5)) (I (m + 6)) (I (m + 7)) (I (m + 8)) (I (m + 9)) (I (m + 10)) (I (m + 11)) (I m 28) = I := by
  funext a
  unfold q_mm
  by_cases h : a = m
  · rw [if_pos h]
    subst h
    funext j
    simp only [q_set]
    repeat (split <;> try (rename_i e; subst e; rfl))
    all_goals rfl
  · rw [if_neg h]
    repeat (split; · rename_i e; rw [e])
    rfl
end q_mm_F
/-! what is told, and valid -/
/-- from home h: k stops g, each by a way -/
def qRt (D : Nat → Nat → Int32) (S h : Nat) (x : Int32) (k : Nat) (g : Nat → Nat) : Prop :=
  k ≤ 5 ∧ (∀ i, i < 5 → q_stop x (w i) = if i < k then w (g i) else -1) ∧ (∀ i, i < k → g i < S) ∧ (0 < k → ¬ D 2 (8 * h + g 0) < 0) ∧ (∀ i, i + 1 < k → ¬ D 2 (8 * g i + g (i + 1)) < 0)
/-- what a flight is: U umbrellas, S stops, dn days -/
def qVD (D : Nat → Nat → Int32) (U S dn : Nat) : Prop :=
  D 0 5 = w U ∧ U ≤ 6 ∧ D 0 3 = w S ∧ S ≤ 8 ∧ D 0 0 = w dn ∧ 0 < dn ∧ dn ≤ 20 ∧ (∀ u, u < U → ∃ h, D 6 u = w h ∧ h < S)
/-- what a plan is -/
def qVP (D : Nat → Nat → Int32) (P : Nat → Int32) (U S dn : Nat) : Prop :=
  ∀ u, u < U → (P (6 + u) = -2 ∨ ∃ d, P (6 + u) = w d ∧ d < dn) ∧ ∀ h, D 6 u = w h → h < 8 → ∃ k g, qRt D S h (P (12 + u)) k g
/-- the reference's flight, its rows E -/
def qRD (D E : Nat → Nat → Int32) (U S : Nat) : Prop :=
  (∀ k, k < 10 → E 0 k = D 0 k) ∧ E 0 11 = D 0 10 ∧ E 0 12 = D 0 11 ∧ (∀ i, i < S → E 1 i = D 1 i) ∧
  (∀ i, i < 64 → (D 2 i < 0 ∧ E 2 i = -1) ∨ (¬ D 2 i < 0 ∧ E 2 i = D 2 i ∧ E 3 i = D 3 i)) ∧
  (∀ u, u < U → E 4 u = D 4 u ∧ E 6 u = D 6 u)
/-- the reference's plan V -/
def qRV (D : Nat → Nat → Int32) (P V : Nat → Int32) (U S : Nat) : Prop :=
  V 48 = P 18 ∧ ∀ u, u < U → V u = P u ∧ V (6 + u) = P (6 + u) ∧ ∀ h, D 6 u = w h → h < 8 → ∃ k g, qRt D S h (P (12 + u)) k g ∧ V (12 + u) = w k ∧ ∀ i, i < k → V (18 + 5 * u + i) = w (g i)
/-- an index that stands for a number below n -/
theorem w_ix {k n : Nat} (h : k < n) (hn : n < 1000000) : ¬ (w k < 0 ∨ n ≤ (w k).toNatClampNeg) := by
  rw [w_tc (by omega)]
  exact fun z => z.elim (w_nn (by omega)) (by omega)
section MB
variable {I : qI} {L : qL} {s : qS}
theorem in_eq (v a b : Int32) : jD 195 [.int v, .int a, .int b] (I, L, s) = some (some (.int (if v < a then 0 else if b < v then 0 else 1)), I, L, s) := by
  rw [D_195, E_195_0]
  simp only [E_195_1, E_195_2, q_i, q_l, q_k, q_r, q_z, q_si, q_sl, jx_lt, jx_ri, jx_rl, jx_rv, if_true, if_false, Nat.reduceLeDiff, Nat.add_one_ne_zero, and_self, true_or, or_true, Nat.reduceEqDiff, or_self, or_false, false_or]
  split
  · rfl
  · split <;> rfl
theorem bit_eq (x k : Int32) : jD 196 [.int x, .int k] (I, L, s) = some (some (.int (if (x >>> (k &&& 31)) &&& 1 = 1 then 1 else 0)), I, L, s) := by
  rw [D_196, E_196_0]
  simp only [E_196_1, E_196_2, q_i, q_l, q_k, q_r, q_z, q_si, q_sl, jx_lt, jx_ri, jx_rl, jx_rv, if_true, if_false, Nat.reduceLeDiff, Nat.add_one_ne_zero, and_self, true_or, or_true, Nat.reduceEqDiff, or_self, or_false, false_or]
  split <;> rename_i c <;> simp only [c, if_true, if_false]
end MB
