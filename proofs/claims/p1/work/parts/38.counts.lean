/-! the counts in 64 pieces -/
theorem cB_step {a k a2 : Nat} (e : a + 2 ^ k = a2) (h1 : cB a k = true) (h2 : cB a2 k = true) : cB a (k + 1) = true := by
  subst e
  show (cB a k && cB (a + 2 ^ k) k) = true
  rw [h1, h2]
  rfl
theorem cB_a0 : cB 0 10 = true := by decide +kernel
theorem cB_a1 : cB 1024 10 = true := by decide +kernel
theorem cB_a2 : cB 2048 10 = true := by decide +kernel
theorem cB_a3 : cB 3072 10 = true := by decide +kernel
theorem cB_a4 : cB 4096 10 = true := by decide +kernel
theorem cB_a5 : cB 5120 10 = true := by decide +kernel
theorem cB_a6 : cB 6144 10 = true := by decide +kernel
theorem cB_a7 : cB 7168 10 = true := by decide +kernel
theorem cB_a8 : cB 8192 10 = true := by decide +kernel
theorem cB_a9 : cB 9216 10 = true := by decide +kernel
theorem cB_a10 : cB 10240 10 = true := by decide +kernel
theorem cB_a11 : cB 11264 10 = true := by decide +kernel
theorem cB_a12 : cB 12288 10 = true := by decide +kernel
theorem cB_a13 : cB 13312 10 = true := by decide +kernel
theorem cB_a14 : cB 14336 10 = true := by decide +kernel
theorem cB_a15 : cB 15360 10 = true := by decide +kernel
theorem cB_a16 : cB 16384 10 = true := by decide +kernel
theorem cB_a17 : cB 17408 10 = true := by decide +kernel
theorem cB_a18 : cB 18432 10 = true := by decide +kernel
theorem cB_a19 : cB 19456 10 = true := by decide +kernel
theorem cB_a20 : cB 20480 10 = true := by decide +kernel
theorem cB_a21 : cB 21504 10 = true := by decide +kernel
theorem cB_a22 : cB 22528 10 = true := by decide +kernel
theorem cB_a23 : cB 23552 10 = true := by decide +kernel
theorem cB_a24 : cB 24576 10 = true := by decide +kernel
theorem cB_a25 : cB 25600 10 = true := by decide +kernel
theorem cB_a26 : cB 26624 10 = true := by decide +kernel
theorem cB_a27 : cB 27648 10 = true := by decide +kernel
theorem cB_a28 : cB 28672 10 = true := by decide +kernel
theorem cB_a29 : cB 29696 10 = true := by decide +kernel
theorem cB_a30 : cB 30720 10 = true := by decide +kernel
theorem cB_a31 : cB 31744 10 = true := by decide +kernel
theorem cB_a32 : cB 32768 10 = true := by decide +kernel
theorem cB_a33 : cB 33792 10 = true := by decide +kernel
theorem cB_a34 : cB 34816 10 = true := by decide +kernel
theorem cB_a35 : cB 35840 10 = true := by decide +kernel
theorem cB_a36 : cB 36864 10 = true := by decide +kernel
theorem cB_a37 : cB 37888 10 = true := by decide +kernel
theorem cB_a38 : cB 38912 10 = true := by decide +kernel
theorem cB_a39 : cB 39936 10 = true := by decide +kernel
theorem cB_a40 : cB 40960 10 = true := by decide +kernel
theorem cB_a41 : cB 41984 10 = true := by decide +kernel
theorem cB_a42 : cB 43008 10 = true := by decide +kernel
theorem cB_a43 : cB 44032 10 = true := by decide +kernel
theorem cB_a44 : cB 45056 10 = true := by decide +kernel
theorem cB_a45 : cB 46080 10 = true := by decide +kernel
theorem cB_a46 : cB 47104 10 = true := by decide +kernel
theorem cB_a47 : cB 48128 10 = true := by decide +kernel
theorem cB_a48 : cB 49152 10 = true := by decide +kernel
theorem cB_a49 : cB 50176 10 = true := by decide +kernel
theorem cB_a50 : cB 51200 10 = true := by decide +kernel
theorem cB_a51 : cB 52224 10 = true := by decide +kernel
theorem cB_a52 : cB 53248 10 = true := by decide +kernel
theorem cB_a53 : cB 54272 10 = true := by decide +kernel
theorem cB_a54 : cB 55296 10 = true := by decide +kernel
theorem cB_a55 : cB 56320 10 = true := by decide +kernel
theorem cB_a56 : cB 57344 10 = true := by decide +kernel
theorem cB_a57 : cB 58368 10 = true := by decide +kernel
theorem cB_a58 : cB 59392 10 = true := by decide +kernel
theorem cB_a59 : cB 60416 10 = true := by decide +kernel
theorem cB_a60 : cB 61440 10 = true := by decide +kernel
theorem cB_a61 : cB 62464 10 = true := by decide +kernel
theorem cB_a62 : cB 63488 10 = true := by decide +kernel
theorem cB_a63 : cB 64512 10 = true := by decide +kernel
theorem cB_k11_0 : cB 0 11 = true := cB_step (k := 10) (by decide) cB_a0 cB_a1
theorem cB_k11_1 : cB 2048 11 = true := cB_step (k := 10) (by decide) cB_a2 cB_a3
theorem cB_k11_2 : cB 4096 11 = true := cB_step (k := 10) (by decide) cB_a4 cB_a5
theorem cB_k11_3 : cB 6144 11 = true := cB_step (k := 10) (by decide) cB_a6 cB_a7
theorem cB_k11_4 : cB 8192 11 = true := cB_step (k := 10) (by decide) cB_a8 cB_a9
theorem cB_k11_5 : cB 10240 11 = true := cB_step (k := 10) (by decide) cB_a10 cB_a11
theorem cB_k11_6 : cB 12288 11 = true := cB_step (k := 10) (by decide) cB_a12 cB_a13
theorem cB_k11_7 : cB 14336 11 = true := cB_step (k := 10) (by decide) cB_a14 cB_a15
theorem cB_k11_8 : cB 16384 11 = true := cB_step (k := 10) (by decide) cB_a16 cB_a17
theorem cB_k11_9 : cB 18432 11 = true := cB_step (k := 10) (by decide) cB_a18 cB_a19
theorem cB_k11_10 : cB 20480 11 = true := cB_step (k := 10) (by decide) cB_a20 cB_a21
theorem cB_k11_11 : cB 22528 11 = true := cB_step (k := 10) (by decide) cB_a22 cB_a23
theorem cB_k11_12 : cB 24576 11 = true := cB_step (k := 10) (by decide) cB_a24 cB_a25
theorem cB_k11_13 : cB 26624 11 = true := cB_step (k := 10) (by decide) cB_a26 cB_a27
theorem cB_k11_14 : cB 28672 11 = true := cB_step (k := 10) (by decide) cB_a28 cB_a29
theorem cB_k11_15 : cB 30720 11 = true := cB_step (k := 10) (by decide) cB_a30 cB_a31
theorem cB_k11_16 : cB 32768 11 = true := cB_step (k := 10) (by decide) cB_a32 cB_a33
theorem cB_k11_17 : cB 34816 11 = true := cB_step (k := 10) (by decide) cB_a34 cB_a35
theorem cB_k11_18 : cB 36864 11 = true := cB_step (k := 10) (by decide) cB_a36 cB_a37
theorem cB_k11_19 : cB 38912 11 = true := cB_step (k := 10) (by decide) cB_a38 cB_a39
theorem cB_k11_20 : cB 40960 11 = true := cB_step (k := 10) (by decide) cB_a40 cB_a41
theorem cB_k11_21 : cB 43008 11 = true := cB_step (k := 10) (by decide) cB_a42 cB_a43
theorem cB_k11_22 : cB 45056 11 = true := cB_step (k := 10) (by decide) cB_a44 cB_a45
theorem cB_k11_23 : cB 47104 11 = true := cB_step (k := 10) (by decide) cB_a46 cB_a47
theorem cB_k11_24 : cB 49152 11 = true := cB_step (k := 10) (by decide) cB_a48 cB_a49
theorem cB_k11_25 : cB 51200 11 = true := cB_step (k := 10) (by decide) cB_a50 cB_a51
theorem cB_k11_26 : cB 53248 11 = true := cB_step (k := 10) (by decide) cB_a52 cB_a53
theorem cB_k11_27 : cB 55296 11 = true := cB_step (k := 10) (by decide) cB_a54 cB_a55
theorem cB_k11_28 : cB 57344 11 = true := cB_step (k := 10) (by decide) cB_a56 cB_a57
theorem cB_k11_29 : cB 59392 11 = true := cB_step (k := 10) (by decide) cB_a58 cB_a59
theorem cB_k11_30 : cB 61440 11 = true := cB_step (k := 10) (by decide) cB_a60 cB_a61
theorem cB_k11_31 : cB 63488 11 = true := cB_step (k := 10) (by decide) cB_a62 cB_a63
theorem cB_k12_0 : cB 0 12 = true := cB_step (k := 11) (by decide) cB_k11_0 cB_k11_1
theorem cB_k12_1 : cB 4096 12 = true := cB_step (k := 11) (by decide) cB_k11_2 cB_k11_3
theorem cB_k12_2 : cB 8192 12 = true := cB_step (k := 11) (by decide) cB_k11_4 cB_k11_5
theorem cB_k12_3 : cB 12288 12 = true := cB_step (k := 11) (by decide) cB_k11_6 cB_k11_7
theorem cB_k12_4 : cB 16384 12 = true := cB_step (k := 11) (by decide) cB_k11_8 cB_k11_9
theorem cB_k12_5 : cB 20480 12 = true := cB_step (k := 11) (by decide) cB_k11_10 cB_k11_11
theorem cB_k12_6 : cB 24576 12 = true := cB_step (k := 11) (by decide) cB_k11_12 cB_k11_13
theorem cB_k12_7 : cB 28672 12 = true := cB_step (k := 11) (by decide) cB_k11_14 cB_k11_15
theorem cB_k12_8 : cB 32768 12 = true := cB_step (k := 11) (by decide) cB_k11_16 cB_k11_17
theorem cB_k12_9 : cB 36864 12 = true := cB_step (k := 11) (by decide) cB_k11_18 cB_k11_19
theorem cB_k12_10 : cB 40960 12 = true := cB_step (k := 11) (by decide) cB_k11_20 cB_k11_21
theorem cB_k12_11 : cB 45056 12 = true := cB_step (k := 11) (by decide) cB_k11_22 cB_k11_23
theorem cB_k12_12 : cB 49152 12 = true := cB_step (k := 11) (by decide) cB_k11_24 cB_k11_25
theorem cB_k12_13 : cB 53248 12 = true := cB_step (k := 11) (by decide) cB_k11_26 cB_k11_27
theorem cB_k12_14 : cB 57344 12 = true := cB_step (k := 11) (by decide) cB_k11_28 cB_k11_29
theorem cB_k12_15 : cB 61440 12 = true := cB_step (k := 11) (by decide) cB_k11_30 cB_k11_31
theorem cB_k13_0 : cB 0 13 = true := cB_step (k := 12) (by decide) cB_k12_0 cB_k12_1
theorem cB_k13_1 : cB 8192 13 = true := cB_step (k := 12) (by decide) cB_k12_2 cB_k12_3
theorem cB_k13_2 : cB 16384 13 = true := cB_step (k := 12) (by decide) cB_k12_4 cB_k12_5
theorem cB_k13_3 : cB 24576 13 = true := cB_step (k := 12) (by decide) cB_k12_6 cB_k12_7
theorem cB_k13_4 : cB 32768 13 = true := cB_step (k := 12) (by decide) cB_k12_8 cB_k12_9
theorem cB_k13_5 : cB 40960 13 = true := cB_step (k := 12) (by decide) cB_k12_10 cB_k12_11
theorem cB_k13_6 : cB 49152 13 = true := cB_step (k := 12) (by decide) cB_k12_12 cB_k12_13
theorem cB_k13_7 : cB 57344 13 = true := cB_step (k := 12) (by decide) cB_k12_14 cB_k12_15
theorem cB_k14_0 : cB 0 14 = true := cB_step (k := 13) (by decide) cB_k13_0 cB_k13_1
theorem cB_k14_1 : cB 16384 14 = true := cB_step (k := 13) (by decide) cB_k13_2 cB_k13_3
theorem cB_k14_2 : cB 32768 14 = true := cB_step (k := 13) (by decide) cB_k13_4 cB_k13_5
theorem cB_k14_3 : cB 49152 14 = true := cB_step (k := 13) (by decide) cB_k13_6 cB_k13_7
theorem cB_k15_0 : cB 0 15 = true := cB_step (k := 14) (by decide) cB_k14_0 cB_k14_1
theorem cB_k15_1 : cB 32768 15 = true := cB_step (k := 14) (by decide) cB_k14_2 cB_k14_3
theorem cB_k16_0 : cB 0 16 = true := cB_step (k := 15) (by decide) cB_k15_0 cB_k15_1
theorem cB_all {n : Nat} (h : n < 65536) : sbc (nI n) = nI (pcn n 16) ∧ (nI n &&& (-65536)) = 0 := by
  have := cB_of 16 0 cB_k16_0 n h
  rw [Nat.zero_add] at this
  exact this
