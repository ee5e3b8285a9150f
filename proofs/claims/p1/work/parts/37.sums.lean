/-! the sums in 64 pieces -/
theorem cS_step {a k v1 v2 a2 : Nat} (e : a + 2 ^ k = a2) (h1 : cS a k = v1) (h2 : cS a2 k = v2) : cS a (k + 1) = v1 + v2 := by
  subst e
  show cS a k + cS (a + 2 ^ k) k = v1 + v2
  rw [h1, h2]
theorem cS_a0 : cS 0 10 = 840 := by decide +kernel
theorem cS_a1 : cS 1024 10 = 480 := by decide +kernel
theorem cS_a2 : cS 2048 10 = 480 := by decide +kernel
theorem cS_a3 : cS 3072 10 = 180 := by decide +kernel
theorem cS_a4 : cS 4096 10 = 480 := by decide +kernel
theorem cS_a5 : cS 5120 10 = 180 := by decide +kernel
theorem cS_a6 : cS 6144 10 = 180 := by decide +kernel
theorem cS_a7 : cS 7168 10 = 40 := by decide +kernel
theorem cS_a8 : cS 8192 10 = 480 := by decide +kernel
theorem cS_a9 : cS 9216 10 = 180 := by decide +kernel
theorem cS_a10 : cS 10240 10 = 180 := by decide +kernel
theorem cS_a11 : cS 11264 10 = 40 := by decide +kernel
theorem cS_a12 : cS 12288 10 = 180 := by decide +kernel
theorem cS_a13 : cS 13312 10 = 40 := by decide +kernel
theorem cS_a14 : cS 14336 10 = 40 := by decide +kernel
theorem cS_a15 : cS 15360 10 = 4 := by decide +kernel
theorem cS_a16 : cS 16384 10 = 480 := by decide +kernel
theorem cS_a17 : cS 17408 10 = 180 := by decide +kernel
theorem cS_a18 : cS 18432 10 = 180 := by decide +kernel
theorem cS_a19 : cS 19456 10 = 40 := by decide +kernel
theorem cS_a20 : cS 20480 10 = 180 := by decide +kernel
theorem cS_a21 : cS 21504 10 = 40 := by decide +kernel
theorem cS_a22 : cS 22528 10 = 40 := by decide +kernel
theorem cS_a23 : cS 23552 10 = 4 := by decide +kernel
theorem cS_a24 : cS 24576 10 = 180 := by decide +kernel
theorem cS_a25 : cS 25600 10 = 40 := by decide +kernel
theorem cS_a26 : cS 26624 10 = 40 := by decide +kernel
theorem cS_a27 : cS 27648 10 = 4 := by decide +kernel
theorem cS_a28 : cS 28672 10 = 40 := by decide +kernel
theorem cS_a29 : cS 29696 10 = 4 := by decide +kernel
theorem cS_a30 : cS 30720 10 = 4 := by decide +kernel
theorem cS_a31 : cS 31744 10 = 0 := by decide +kernel
theorem cS_a32 : cS 32768 10 = 480 := by decide +kernel
theorem cS_a33 : cS 33792 10 = 180 := by decide +kernel
theorem cS_a34 : cS 34816 10 = 180 := by decide +kernel
theorem cS_a35 : cS 35840 10 = 40 := by decide +kernel
theorem cS_a36 : cS 36864 10 = 180 := by decide +kernel
theorem cS_a37 : cS 37888 10 = 40 := by decide +kernel
theorem cS_a38 : cS 38912 10 = 40 := by decide +kernel
theorem cS_a39 : cS 39936 10 = 4 := by decide +kernel
theorem cS_a40 : cS 40960 10 = 180 := by decide +kernel
theorem cS_a41 : cS 41984 10 = 40 := by decide +kernel
theorem cS_a42 : cS 43008 10 = 40 := by decide +kernel
theorem cS_a43 : cS 44032 10 = 4 := by decide +kernel
theorem cS_a44 : cS 45056 10 = 40 := by decide +kernel
theorem cS_a45 : cS 46080 10 = 4 := by decide +kernel
theorem cS_a46 : cS 47104 10 = 4 := by decide +kernel
theorem cS_a47 : cS 48128 10 = 0 := by decide +kernel
theorem cS_a48 : cS 49152 10 = 180 := by decide +kernel
theorem cS_a49 : cS 50176 10 = 40 := by decide +kernel
theorem cS_a50 : cS 51200 10 = 40 := by decide +kernel
theorem cS_a51 : cS 52224 10 = 4 := by decide +kernel
theorem cS_a52 : cS 53248 10 = 40 := by decide +kernel
theorem cS_a53 : cS 54272 10 = 4 := by decide +kernel
theorem cS_a54 : cS 55296 10 = 4 := by decide +kernel
theorem cS_a55 : cS 56320 10 = 0 := by decide +kernel
theorem cS_a56 : cS 57344 10 = 40 := by decide +kernel
theorem cS_a57 : cS 58368 10 = 4 := by decide +kernel
theorem cS_a58 : cS 59392 10 = 4 := by decide +kernel
theorem cS_a59 : cS 60416 10 = 0 := by decide +kernel
theorem cS_a60 : cS 61440 10 = 4 := by decide +kernel
theorem cS_a61 : cS 62464 10 = 0 := by decide +kernel
theorem cS_a62 : cS 63488 10 = 0 := by decide +kernel
theorem cS_a63 : cS 64512 10 = 0 := by decide +kernel
theorem cS_k11_0 : cS 0 11 = 1320 := cS_step (k := 10) (by decide) cS_a0 cS_a1
theorem cS_k11_1 : cS 2048 11 = 660 := cS_step (k := 10) (by decide) cS_a2 cS_a3
theorem cS_k11_2 : cS 4096 11 = 660 := cS_step (k := 10) (by decide) cS_a4 cS_a5
theorem cS_k11_3 : cS 6144 11 = 220 := cS_step (k := 10) (by decide) cS_a6 cS_a7
theorem cS_k11_4 : cS 8192 11 = 660 := cS_step (k := 10) (by decide) cS_a8 cS_a9
theorem cS_k11_5 : cS 10240 11 = 220 := cS_step (k := 10) (by decide) cS_a10 cS_a11
theorem cS_k11_6 : cS 12288 11 = 220 := cS_step (k := 10) (by decide) cS_a12 cS_a13
theorem cS_k11_7 : cS 14336 11 = 44 := cS_step (k := 10) (by decide) cS_a14 cS_a15
theorem cS_k11_8 : cS 16384 11 = 660 := cS_step (k := 10) (by decide) cS_a16 cS_a17
theorem cS_k11_9 : cS 18432 11 = 220 := cS_step (k := 10) (by decide) cS_a18 cS_a19
theorem cS_k11_10 : cS 20480 11 = 220 := cS_step (k := 10) (by decide) cS_a20 cS_a21
theorem cS_k11_11 : cS 22528 11 = 44 := cS_step (k := 10) (by decide) cS_a22 cS_a23
theorem cS_k11_12 : cS 24576 11 = 220 := cS_step (k := 10) (by decide) cS_a24 cS_a25
theorem cS_k11_13 : cS 26624 11 = 44 := cS_step (k := 10) (by decide) cS_a26 cS_a27
theorem cS_k11_14 : cS 28672 11 = 44 := cS_step (k := 10) (by decide) cS_a28 cS_a29
theorem cS_k11_15 : cS 30720 11 = 4 := cS_step (k := 10) (by decide) cS_a30 cS_a31
theorem cS_k11_16 : cS 32768 11 = 660 := cS_step (k := 10) (by decide) cS_a32 cS_a33
theorem cS_k11_17 : cS 34816 11 = 220 := cS_step (k := 10) (by decide) cS_a34 cS_a35
theorem cS_k11_18 : cS 36864 11 = 220 := cS_step (k := 10) (by decide) cS_a36 cS_a37
theorem cS_k11_19 : cS 38912 11 = 44 := cS_step (k := 10) (by decide) cS_a38 cS_a39
theorem cS_k11_20 : cS 40960 11 = 220 := cS_step (k := 10) (by decide) cS_a40 cS_a41
theorem cS_k11_21 : cS 43008 11 = 44 := cS_step (k := 10) (by decide) cS_a42 cS_a43
theorem cS_k11_22 : cS 45056 11 = 44 := cS_step (k := 10) (by decide) cS_a44 cS_a45
theorem cS_k11_23 : cS 47104 11 = 4 := cS_step (k := 10) (by decide) cS_a46 cS_a47
theorem cS_k11_24 : cS 49152 11 = 220 := cS_step (k := 10) (by decide) cS_a48 cS_a49
theorem cS_k11_25 : cS 51200 11 = 44 := cS_step (k := 10) (by decide) cS_a50 cS_a51
theorem cS_k11_26 : cS 53248 11 = 44 := cS_step (k := 10) (by decide) cS_a52 cS_a53
theorem cS_k11_27 : cS 55296 11 = 4 := cS_step (k := 10) (by decide) cS_a54 cS_a55
theorem cS_k11_28 : cS 57344 11 = 44 := cS_step (k := 10) (by decide) cS_a56 cS_a57
theorem cS_k11_29 : cS 59392 11 = 4 := cS_step (k := 10) (by decide) cS_a58 cS_a59
theorem cS_k11_30 : cS 61440 11 = 4 := cS_step (k := 10) (by decide) cS_a60 cS_a61
theorem cS_k11_31 : cS 63488 11 = 0 := cS_step (k := 10) (by decide) cS_a62 cS_a63
theorem cS_k12_0 : cS 0 12 = 1980 := cS_step (k := 11) (by decide) cS_k11_0 cS_k11_1
theorem cS_k12_1 : cS 4096 12 = 880 := cS_step (k := 11) (by decide) cS_k11_2 cS_k11_3
theorem cS_k12_2 : cS 8192 12 = 880 := cS_step (k := 11) (by decide) cS_k11_4 cS_k11_5
theorem cS_k12_3 : cS 12288 12 = 264 := cS_step (k := 11) (by decide) cS_k11_6 cS_k11_7
theorem cS_k12_4 : cS 16384 12 = 880 := cS_step (k := 11) (by decide) cS_k11_8 cS_k11_9
theorem cS_k12_5 : cS 20480 12 = 264 := cS_step (k := 11) (by decide) cS_k11_10 cS_k11_11
theorem cS_k12_6 : cS 24576 12 = 264 := cS_step (k := 11) (by decide) cS_k11_12 cS_k11_13
theorem cS_k12_7 : cS 28672 12 = 48 := cS_step (k := 11) (by decide) cS_k11_14 cS_k11_15
theorem cS_k12_8 : cS 32768 12 = 880 := cS_step (k := 11) (by decide) cS_k11_16 cS_k11_17
theorem cS_k12_9 : cS 36864 12 = 264 := cS_step (k := 11) (by decide) cS_k11_18 cS_k11_19
theorem cS_k12_10 : cS 40960 12 = 264 := cS_step (k := 11) (by decide) cS_k11_20 cS_k11_21
theorem cS_k12_11 : cS 45056 12 = 48 := cS_step (k := 11) (by decide) cS_k11_22 cS_k11_23
theorem cS_k12_12 : cS 49152 12 = 264 := cS_step (k := 11) (by decide) cS_k11_24 cS_k11_25
theorem cS_k12_13 : cS 53248 12 = 48 := cS_step (k := 11) (by decide) cS_k11_26 cS_k11_27
theorem cS_k12_14 : cS 57344 12 = 48 := cS_step (k := 11) (by decide) cS_k11_28 cS_k11_29
theorem cS_k12_15 : cS 61440 12 = 4 := cS_step (k := 11) (by decide) cS_k11_30 cS_k11_31
theorem cS_k13_0 : cS 0 13 = 2860 := cS_step (k := 12) (by decide) cS_k12_0 cS_k12_1
theorem cS_k13_1 : cS 8192 13 = 1144 := cS_step (k := 12) (by decide) cS_k12_2 cS_k12_3
theorem cS_k13_2 : cS 16384 13 = 1144 := cS_step (k := 12) (by decide) cS_k12_4 cS_k12_5
theorem cS_k13_3 : cS 24576 13 = 312 := cS_step (k := 12) (by decide) cS_k12_6 cS_k12_7
theorem cS_k13_4 : cS 32768 13 = 1144 := cS_step (k := 12) (by decide) cS_k12_8 cS_k12_9
theorem cS_k13_5 : cS 40960 13 = 312 := cS_step (k := 12) (by decide) cS_k12_10 cS_k12_11
theorem cS_k13_6 : cS 49152 13 = 312 := cS_step (k := 12) (by decide) cS_k12_12 cS_k12_13
theorem cS_k13_7 : cS 57344 13 = 52 := cS_step (k := 12) (by decide) cS_k12_14 cS_k12_15
theorem cS_k14_0 : cS 0 14 = 4004 := cS_step (k := 13) (by decide) cS_k13_0 cS_k13_1
theorem cS_k14_1 : cS 16384 14 = 1456 := cS_step (k := 13) (by decide) cS_k13_2 cS_k13_3
theorem cS_k14_2 : cS 32768 14 = 1456 := cS_step (k := 13) (by decide) cS_k13_4 cS_k13_5
theorem cS_k14_3 : cS 49152 14 = 364 := cS_step (k := 13) (by decide) cS_k13_6 cS_k13_7
theorem cS_k15_0 : cS 0 15 = 5460 := cS_step (k := 14) (by decide) cS_k14_0 cS_k14_1
theorem cS_k15_1 : cS 32768 15 = 1820 := cS_step (k := 14) (by decide) cS_k14_2 cS_k14_3
theorem cS_k16_0 : cS 0 16 = 7280 := cS_step (k := 15) (by decide) cS_k15_0 cS_k15_1
theorem cnt_all : cnt 65536 = 7280 := (cnt_cR 65536).trans ((cR_cS 16 0).trans cS_k16_0)
