/-! a call enters a method -/
section
variable {d : Nat} {Q : Option Value → zH → Prop} {lv l : zL} {st : zS} {h : zH} {x z : Int32} {c : Nat} {i j : Int64} {o0 o1 o2 o3 o4 o5 o6 o7 o8 o9 o10 o11 o12 : Option Value} {x0 x1 x2 x3 x4 y0 y1 y2 y3 : Int32} {c0 c1 c2 c3 c4 a0 a1 a2 a3 : Nat} {j0 j1 j2 k0 k1 : Int64}

theorem m0 : zM (d + 1) 0 [.int x0] h Q = zR d 0 Q 0 [some (.int x0)] [] h := zM_R (by decide) rfl rfl
theorem m1 : zM (d + 1) 1 [.int x0, .int x1] h Q = zR d 1 Q 0 [some (.int x0), some (.int x1), none, none] [] h := zM_R (by decide) rfl rfl
theorem m2 : zM (d + 1) 2 [.int x0, .int x1] h Q = zR d 2 Q 0 [some (.int x0), some (.int x1)] [] h := zM_R (by decide) rfl rfl
theorem m3 : zM (d + 1) 3 [.int x0] h Q = zR d 3 Q 0 [some (.int x0)] [] h := zM_R (by decide) rfl rfl
theorem m4 : zM (d + 1) 4 [.int x0, .int x1] h Q = zR d 4 Q 0 [some (.int x0), some (.int x1)] [] h := zM_R (by decide) rfl rfl
theorem m5 : zM (d + 1) 5 [.int x0, .int x1] h Q = zR d 5 Q 0 [some (.int x0), some (.int x1)] [] h := zM_R (by decide) rfl rfl
theorem m6 : zM (d + 1) 6 [.ref 1, .int x0, .ref c1] h Q = zR d 6 Q 0 [some (.ref 1), some (.int x0), some (.ref c1)] [] h := zM_R (by decide) rfl rfl
theorem m7 : zM (d + 1) 7 [.ref 1, .int x0, .int x1, .int x2, .int x3] h Q = zR d 7 Q 0 [some (.ref 1), some (.int x0), some (.int x1), some (.int x2), some (.int x3), none, none, none] [] h := zM_R (by decide) rfl rfl
theorem m8 : zM (d + 1) 8 [.int x0, .int x1, .int x2] h Q = zR d 8 Q 0 [some (.int x0), some (.int x1), some (.int x2)] [] h := zM_R (by decide) rfl rfl
theorem m9 : zM (d + 1) 9 [.ref 7, .int x0] h Q = zR d 9 Q 0 [some (.ref 7), some (.int x0), none] [] h := zM_R (by decide) rfl rfl
theorem m10 : zM (d + 1) 10 [.ref 7] h Q = zR d 10 Q 0 [some (.ref 7)] [] h := zM_R (by decide) rfl rfl
theorem m11 : zM (d + 1) 11 [.ref 7] h Q = zR d 11 Q 0 [some (.ref 7), none, none] [] h := zM_R (by decide) rfl rfl
theorem m12 : zM (d + 1) 12 [.ref 7] h Q = zR d 12 Q 0 [some (.ref 7)] [] h := zM_R (by decide) rfl rfl
theorem m13 : zM (d + 1) 13 [.ref 7, .int x0] h Q = zR d 13 Q 0 [some (.ref 7), some (.int x0)] [] h := zM_R (by decide) rfl rfl
theorem m14 : zM (d + 1) 14 [.ref 7, .int x0] h Q = zR d 14 Q 0 [some (.ref 7), some (.int x0), none] [] h := zM_R (by decide) rfl rfl
theorem m15 : zM (d + 1) 15 [.ref 7] h Q = zR d 15 Q 0 [some (.ref 7)] [] h := zM_R (by decide) rfl rfl
theorem m16 : zM (d + 1) 16 [.ref 7, .int x0] h Q = zR d 16 Q 0 [some (.ref 7), some (.int x0)] [] h := zM_R (by decide) rfl rfl
theorem m17 : zM (d + 1) 17 [.ref 7, .int x0] h Q = zR d 17 Q 0 [some (.ref 7), some (.int x0)] [] h := zM_R (by decide) rfl rfl
theorem m18 : zM (d + 1) 18 [.ref 7] h Q = zR d 18 Q 0 [some (.ref 7)] [] h := zM_R (by decide) rfl rfl
theorem m19 : zM (d + 1) 19 [.ref 7, .ref c0] h Q = zR d 19 Q 0 [some (.ref 7), some (.ref c0), none] [] h := zM_R (by decide) rfl rfl
theorem m20 : zM (d + 1) 20 [.ref 7, .int x0, .int x1] h Q = zR d 20 Q 0 [some (.ref 7), some (.int x0), some (.int x1), none] [] h := zM_R (by decide) rfl rfl
theorem m21 : zM (d + 1) 21 [.ref 7, .int x0, .int x1] h Q = zR d 21 Q 0 [some (.ref 7), some (.int x0), some (.int x1), none] [] h := zM_R (by decide) rfl rfl
theorem m22 : zM (d + 1) 22 [.ref 7, .int x0, .int x1] h Q = zR d 22 Q 0 [some (.ref 7), some (.int x0), some (.int x1), none] [] h := zM_R (by decide) rfl rfl
theorem m23 : zM (d + 1) 23 [.ref 7, .int x0, .int x1] h Q = zR d 23 Q 0 [some (.ref 7), some (.int x0), some (.int x1), none, none] [] h := zM_R (by decide) rfl rfl
theorem m24 : zM (d + 1) 24 [.ref 7, .int x0, .int x1] h Q = zR d 24 Q 0 [some (.ref 7), some (.int x0), some (.int x1), none, none] [] h := zM_R (by decide) rfl rfl
theorem m25 : zM (d + 1) 25 [.ref 7, .int x0, .int x1] h Q = zR d 25 Q 0 [some (.ref 7), some (.int x0), some (.int x1)] [] h := zM_R (by decide) rfl rfl
theorem m26 : zM (d + 1) 26 [.ref 7] h Q = zR d 26 Q 0 [some (.ref 7)] [] h := zM_R (by decide) rfl rfl
theorem m27 : zM (d + 1) 27 [.ref 7] h Q = zR d 27 Q 0 [some (.ref 7), none, none] [] h := zM_R (by decide) rfl rfl
theorem m28 : zM (d + 1) 28 [.ref 7] h Q = zR d 28 Q 0 [some (.ref 7), none] [] h := zM_R (by decide) rfl rfl
theorem m29 : zM (d + 1) 29 [.ref 7] h Q = zR d 29 Q 0 [some (.ref 7), none, none] [] h := zM_R (by decide) rfl rfl
theorem m30 : zM (d + 1) 30 [.ref c, .int x0, .int x1] h Q = zR d 30 Q 0 [some (.ref c), some (.int x0), some (.int x1), none] [] h := zM_R (by decide) rfl rfl
theorem m31 : zM (d + 1) 31 [.ref c, .ref c0] h Q = zR d 31 Q 0 [some (.ref c), some (.ref c0)] [] h := zM_R (by decide) rfl rfl
theorem m32 : zM (d + 1) 32 [.ref c] h Q = zR d 32 Q 0 [some (.ref c)] [] h := zM_R (by decide) rfl rfl
theorem m33 : zM (d + 1) 33 [.ref c, .int x0] h Q = zR d 33 Q 0 [some (.ref c), some (.int x0)] [] h := zM_R (by decide) rfl rfl
theorem m34 : zM (d + 1) 34 [.ref c, .int x0, .int x1] h Q = zR d 34 Q 0 [some (.ref c), some (.int x0), some (.int x1)] [] h := zM_R (by decide) rfl rfl
theorem m35 : zM (d + 1) 35 [.ref c, .int x0] h Q = zR d 35 Q 0 [some (.ref c), some (.int x0)] [] h := zM_R (by decide) rfl rfl
theorem m36 : zM (d + 1) 36 [.ref c, .ref c0] h Q = zR d 36 Q 0 [some (.ref c), some (.ref c0)] [] h := zM_R (by decide) rfl rfl
theorem m37 : zM (d + 1) 37 [.ref c, .int x0] h Q = zR d 37 Q 0 [some (.ref c), some (.int x0)] [] h := zM_R (by decide) rfl rfl
theorem m38 : zM (d + 1) 38 [.ref c, .int x0, .int x1, .int x2] h Q = zR d 38 Q 0 [some (.ref c), some (.int x0), some (.int x1), some (.int x2), none] [] h := zM_R (by decide) rfl rfl
theorem m39 : zM (d + 1) 39 [.ref c] h Q = zR d 39 Q 0 [some (.ref c)] [] h := zM_R (by decide) rfl rfl
theorem m40 : zM (d + 1) 40 [.ref c, .int x0] h Q = zR d 40 Q 0 [some (.ref c), some (.int x0), none, none] [] h := zM_R (by decide) rfl rfl
theorem m41 : zM (d + 1) 41 [.ref c, .ref c0] h Q = zR d 41 Q 0 [some (.ref c), some (.ref c0), none, none] [] h := zM_R (by decide) rfl rfl
theorem m42 : zM (d + 1) 42 [.ref c] h Q = zR d 42 Q 0 [some (.ref c), none] [] h := zM_R (by decide) rfl rfl
theorem m43 : zM (d + 1) 43 [.ref c, .int x0] h Q = zR d 43 Q 0 [some (.ref c), some (.int x0), none, none] [] h := zM_R (by decide) rfl rfl
theorem m44 : zM (d + 1) 44 [.ref c, .int x0] h Q = zR d 44 Q 0 [some (.ref c), some (.int x0), none, none] [] h := zM_R (by decide) rfl rfl
theorem m45 : zM (d + 1) 45 [.ref c, .int x0, .int x1] h Q = zR d 45 Q 0 [some (.ref c), some (.int x0), some (.int x1), none] [] h := zM_R (by decide) rfl rfl
theorem m46 : zM (d + 1) 46 [.ref c] h Q = zR d 46 Q 0 [some (.ref c)] [] h := zM_R (by decide) rfl rfl
theorem m47 : zM (d + 1) 47 [.ref c] h Q = zR d 47 Q 0 [some (.ref c), none] [] h := zM_R (by decide) rfl rfl
theorem m48 : zM (d + 1) 48 [.ref c] h Q = zR d 48 Q 0 [some (.ref c), none, none, none, none, none, none, none] [] h := zM_R (by decide) rfl rfl
theorem m49 : zM (d + 1) 49 [.ref c, .int x0] h Q = zR d 49 Q 0 [some (.ref c), some (.int x0), none, none, none, none] [] h := zM_R (by decide) rfl rfl
theorem m50 : zM (d + 1) 50 [.ref c] h Q = zR d 50 Q 0 [some (.ref c), none, none, none, none, none, none] [] h := zM_R (by decide) rfl rfl
theorem m51 : zM (d + 1) 51 [.ref c, .int x0] h Q = zR d 51 Q 0 [some (.ref c), some (.int x0), none, none] [] h := zM_R (by decide) rfl rfl
theorem m52 : zM (d + 1) 52 [.ref c, .int x0] h Q = zR d 52 Q 0 [some (.ref c), some (.int x0), none, none, none] [] h := zM_R (by decide) rfl rfl
theorem m53 : zM (d + 1) 53 [.ref c, .int x0] h Q = zR d 53 Q 0 [some (.ref c), some (.int x0), none] [] h := zM_R (by decide) rfl rfl
theorem m54 : zM (d + 1) 54 [.ref c] h Q = zR d 54 Q 0 [some (.ref c), none, none, none] [] h := zM_R (by decide) rfl rfl
theorem m55 : zM (d + 1) 55 [.ref c] h Q = zR d 55 Q 0 [some (.ref c), none] [] h := zM_R (by decide) rfl rfl
theorem m56 : zM (d + 1) 56 [.ref c] h Q = zR d 56 Q 0 [some (.ref c), none] [] h := zM_R (by decide) rfl rfl
theorem m57 : zM (d + 1) 57 [.ref c, .int x0] h Q = zR d 57 Q 0 [some (.ref c), some (.int x0), none, none] [] h := zM_R (by decide) rfl rfl
theorem m58 : zM (d + 1) 58 [.ref 0, .int x0, .int x1, .int x2] h Q = zR d 58 Q 0 [some (.ref 0), some (.int x0), some (.int x1), some (.int x2)] [] h := zM_R (by decide) rfl rfl
theorem m59 : zM (d + 1) 59 [.ref 0, .int x0, .int x1] h Q = zR d 59 Q 0 [some (.ref 0), some (.int x0), some (.int x1)] [] h := zM_R (by decide) rfl rfl
theorem m60 : zM (d + 1) 60 [.ref 0, .int x0, .int x1] h Q = zR d 60 Q 0 [some (.ref 0), some (.int x0), some (.int x1)] [] h := zM_R (by decide) rfl rfl
theorem m61 : zM (d + 1) 61 [.ref 0, .int x0, .int x1] h Q = zR d 61 Q 0 [some (.ref 0), some (.int x0), some (.int x1)] [] h := zM_R (by decide) rfl rfl
theorem m62 : zM (d + 1) 62 [.ref 0, .int x0, .int x1, .int x2] h Q = zR d 62 Q 0 [some (.ref 0), some (.int x0), some (.int x1), some (.int x2)] [] h := zM_R (by decide) rfl rfl
theorem m63 : zM (d + 1) 63 [.ref 0, .int x0] h Q = zR d 63 Q 0 [some (.ref 0), some (.int x0)] [] h := zM_R (by decide) rfl rfl
theorem m64 : zM (d + 1) 64 [.ref 0, .int x0, .int x1] h Q = zR d 64 Q 0 [some (.ref 0), some (.int x0), some (.int x1)] [] h := zM_R (by decide) rfl rfl
theorem m65 : zM (d + 1) 65 [.ref 0, .int x0] h Q = zR d 65 Q 0 [some (.ref 0), some (.int x0)] [] h := zM_R (by decide) rfl rfl
theorem m66 : zM (d + 1) 66 [.ref 0] h Q = zR d 66 Q 0 [some (.ref 0)] [] h := zM_R (by decide) rfl rfl
theorem m67 : zM (d + 1) 67 [.ref 0, .int x0] h Q = zR d 67 Q 0 [some (.ref 0), some (.int x0), none, none, none, none, none] [] h := zM_R (by decide) rfl rfl
theorem m68 : zM (d + 1) 68 [.ref 0, .int x0] h Q = zR d 68 Q 0 [some (.ref 0), some (.int x0), none] [] h := zM_R (by decide) rfl rfl
theorem m69 : zM (d + 1) 69 [.ref 0, .int x0] h Q = zR d 69 Q 0 [some (.ref 0), some (.int x0), none] [] h := zM_R (by decide) rfl rfl
theorem m70 : zM (d + 1) 70 [.ref 0, .int x0] h Q = zR d 70 Q 0 [some (.ref 0), some (.int x0)] [] h := zM_R (by decide) rfl rfl
theorem m71 : zM (d + 1) 71 [.ref 0] h Q = zR d 71 Q 0 [some (.ref 0), none] [] h := zM_R (by decide) rfl rfl
theorem m72 : zM (d + 1) 72 [.ref 0, .int x0] h Q = zR d 72 Q 0 [some (.ref 0), some (.int x0), none] [] h := zM_R (by decide) rfl rfl
theorem m73 : zM (d + 1) 73 [.ref 0, .int x0, .int x1] h Q = zR d 73 Q 0 [some (.ref 0), some (.int x0), some (.int x1)] [] h := zM_R (by decide) rfl rfl
theorem m74 : zM (d + 1) 74 [.ref 0, .int x0, .int x1] h Q = zR d 74 Q 0 [some (.ref 0), some (.int x0), some (.int x1), none, none, none, none] [] h := zM_R (by decide) rfl rfl
theorem m75 : zM (d + 1) 75 [.ref 0, .int x0, .int x1] h Q = zR d 75 Q 0 [some (.ref 0), some (.int x0), some (.int x1), none, none, none] [] h := zM_R (by decide) rfl rfl
theorem m76 : zM (d + 1) 76 [.ref 0, .int x0, .int x1] h Q = zR d 76 Q 0 [some (.ref 0), some (.int x0), some (.int x1), none, none, none] [] h := zM_R (by decide) rfl rfl
theorem m77 : zM (d + 1) 77 [.ref 0] h Q = zR d 77 Q 0 [some (.ref 0), none] [] h := zM_R (by decide) rfl rfl
theorem m78 : zM (d + 1) 78 [.ref 0, .int x0, .int x1] h Q = zR d 78 Q 0 [some (.ref 0), some (.int x0), some (.int x1), none, none, none, none, none] [] h := zM_R (by decide) rfl rfl
theorem m79 : zM (d + 1) 79 [.ref 0, .ref c0, .int x1] h Q = zR d 79 Q 0 [some (.ref 0), some (.ref c0), some (.int x1), none, none] [] h := zM_R (by decide) rfl rfl
theorem m80 : zM (d + 1) 80 [.ref 0] h Q = zR d 80 Q 0 [some (.ref 0), none] [] h := zM_R (by decide) rfl rfl
theorem m81 : zM (d + 1) 81 [.ref 0, .int x0, .int x1, .int x2] h Q = zR d 81 Q 0 [some (.ref 0), some (.int x0), some (.int x1), some (.int x2)] [] h := zM_R (by decide) rfl rfl
theorem m82 : zM (d + 1) 82 [.ref 0, .int x0] h Q = zR d 82 Q 0 [some (.ref 0), some (.int x0)] [] h := zM_R (by decide) rfl rfl
theorem m83 : zM (d + 1) 83 [.ref 0] h Q = zR d 83 Q 0 [some (.ref 0), none, none] [] h := zM_R (by decide) rfl rfl
theorem m84 : zM (d + 1) 84 [.ref 0, .int x0, .int x1] h Q = zR d 84 Q 0 [some (.ref 0), some (.int x0), some (.int x1)] [] h := zM_R (by decide) rfl rfl
theorem m85 : zM (d + 1) 85 [.ref 0, .int x0] h Q = zR d 85 Q 0 [some (.ref 0), some (.int x0)] [] h := zM_R (by decide) rfl rfl
theorem m86 : zM (d + 1) 86 [.ref 0, .int x0, .int x1, .int x2] h Q = zR d 86 Q 0 [some (.ref 0), some (.int x0), some (.int x1), some (.int x2), none] [] h := zM_R (by decide) rfl rfl
theorem m87 : zM (d + 1) 87 [.ref 0, .int x0, .int x1, .int x2] h Q = zR d 87 Q 0 [some (.ref 0), some (.int x0), some (.int x1), some (.int x2), none] [] h := zM_R (by decide) rfl rfl
theorem m88 : zM (d + 1) 88 [.ref 0, .int x0] h Q = zR d 88 Q 0 [some (.ref 0), some (.int x0), none, none, none, none] [] h := zM_R (by decide) rfl rfl
theorem m89 : zM (d + 1) 89 [.ref 0, .int x0] h Q = zR d 89 Q 0 [some (.ref 0), some (.int x0), none, none] [] h := zM_R (by decide) rfl rfl
theorem m90 : zM (d + 1) 90 [.ref 0, .int x0, .int x1, .int x2, .int x3, .int x4] h Q = zR d 90 Q 0 [some (.ref 0), some (.int x0), some (.int x1), some (.int x2), some (.int x3), some (.int x4), none, none] [] h := zM_R (by decide) rfl rfl
theorem m91 : zM (d + 1) 91 [.ref 0, .int x0, .int x1, .int x2] h Q = zR d 91 Q 0 [some (.ref 0), some (.int x0), some (.int x1), some (.int x2), none, none] [] h := zM_R (by decide) rfl rfl
theorem m92 : zM (d + 1) 92 [.ref 0, .int x0, .int x1] h Q = zR d 92 Q 0 [some (.ref 0), some (.int x0), some (.int x1), none] [] h := zM_R (by decide) rfl rfl
theorem m93 : zM (d + 1) 93 [.ref 0, .int x0, .int x1] h Q = zR d 93 Q 0 [some (.ref 0), some (.int x0), some (.int x1), none] [] h := zM_R (by decide) rfl rfl
theorem m94 : zM (d + 1) 94 [.ref 0, .int x0, .int x1] h Q = zR d 94 Q 0 [some (.ref 0), some (.int x0), some (.int x1), none] [] h := zM_R (by decide) rfl rfl
theorem m95 : zM (d + 1) 95 [.ref 0, .int x0] h Q = zR d 95 Q 0 [some (.ref 0), some (.int x0)] [] h := zM_R (by decide) rfl rfl
theorem m96 : zM (d + 1) 96 [.ref 0, .int x0] h Q = zR d 96 Q 0 [some (.ref 0), some (.int x0)] [] h := zM_R (by decide) rfl rfl
theorem m97 : zM (d + 1) 97 [.ref 0, .int x0] h Q = zR d 97 Q 0 [some (.ref 0), some (.int x0)] [] h := zM_R (by decide) rfl rfl
theorem m98 : zM (d + 1) 98 [.ref 0, .int x0] h Q = zR d 98 Q 0 [some (.ref 0), some (.int x0), none, none, none] [] h := zM_R (by decide) rfl rfl
theorem m99 : zM (d + 1) 99 [.ref 0, .int x0, .int x1, .int x2] h Q = zR d 99 Q 0 [some (.ref 0), some (.int x0), some (.int x1), some (.int x2)] [] h := zM_R (by decide) rfl rfl
theorem m100 : zM (d + 1) 100 [.ref 0] h Q = zR d 100 Q 0 [some (.ref 0)] [] h := zM_R (by decide) rfl rfl
theorem m101 : zM (d + 1) 101 [.ref 0] h Q = zR d 101 Q 0 [some (.ref 0)] [] h := zM_R (by decide) rfl rfl
theorem m102 : zM (d + 1) 102 [.ref 0, .int x0] h Q = zR d 102 Q 0 [some (.ref 0), some (.int x0)] [] h := zM_R (by decide) rfl rfl
theorem m103 : zM (d + 1) 103 [.int x0, .int x1, .int x2] h Q = zR d 103 Q 0 [some (.int x0), some (.int x1), some (.int x2)] [] h := zM_R (by decide) rfl rfl
theorem m104 : zM (d + 1) 104 [.int x0, .int x1, .int x2] h Q = zR d 104 Q 0 [some (.int x0), some (.int x1), some (.int x2)] [] h := zM_R (by decide) rfl rfl
theorem m105 : zM (d + 1) 105 [.ref c0, .int x1, .int x2, .int x3, .int x4] h Q = zR d 105 Q 0 [some (.ref c0), some (.int x1), some (.int x2), some (.int x3), some (.int x4), none] [] h := zM_R (by decide) rfl rfl
theorem m106 : zM (d + 1) 106 [.long j0, .long j1, .long j2] h Q = zR d 106 Q 0 [some (.long j0), none, some (.long j1), none, some (.long j2), none] [] h := zM_R (by decide) rfl rfl
theorem m107 : zM (d + 1) 107 [.int x0] h Q = zR d 107 Q 0 [some (.int x0)] [] h := zM_R (by decide) rfl rfl
theorem m108 : zM (d + 1) 108 [.int x0, .int x1, .int x2] h Q = zR d 108 Q 0 [some (.int x0), some (.int x1), some (.int x2)] [] h := zM_R (by decide) rfl rfl
theorem m109 : zM (d + 1) 109 [.int x0, .int x1] h Q = zR d 109 Q 0 [some (.int x0), some (.int x1)] [] h := zM_R (by decide) rfl rfl
theorem m110 : zM (d + 1) 110 [.int x0] h Q = zR d 110 Q 0 [some (.int x0), none, none] [] h := zM_R (by decide) rfl rfl
theorem m111 : zM (d + 1) 111 [.ref 60, .int x0, .int x1] h Q = zR d 111 Q 0 [some (.ref 60), some (.int x0), some (.int x1), none] [] h := zM_R (by decide) rfl rfl
theorem m112 : zM (d + 1) 112 [.ref 60, .int x0] h Q = zR d 112 Q 0 [some (.ref 60), some (.int x0)] [] h := zM_R (by decide) rfl rfl
theorem m113 : zM (d + 1) 113 [.ref 60, .int x0, .int x1] h Q = zR d 113 Q 0 [some (.ref 60), some (.int x0), some (.int x1)] [] h := zM_R (by decide) rfl rfl
theorem m114 : zM (d + 1) 114 [.ref 60, .int x0, .int x1, .int x2] h Q = zR d 114 Q 0 [some (.ref 60), some (.int x0), some (.int x1), some (.int x2)] [] h := zM_R (by decide) rfl rfl
theorem m115 : zM (d + 1) 115 [.ref 60, .int x0] h Q = zR d 115 Q 0 [some (.ref 60), some (.int x0)] [] h := zM_R (by decide) rfl rfl
theorem m116 : zM (d + 1) 116 [.ref 60, .int x0] h Q = zR d 116 Q 0 [some (.ref 60), some (.int x0)] [] h := zM_R (by decide) rfl rfl
theorem m117 : zM (d + 1) 117 [.ref 60] h Q = zR d 117 Q 0 [some (.ref 60)] [] h := zM_R (by decide) rfl rfl
theorem m118 : zM (d + 1) 118 [.ref 60, .int x0, .int x1, .int x2] h Q = zR d 118 Q 0 [some (.ref 60), some (.int x0), some (.int x1), some (.int x2), none] [] h := zM_R (by decide) rfl rfl
theorem m119 : zM (d + 1) 119 [.ref 60, .int x0, .int x1, .int x2] h Q = zR d 119 Q 0 [some (.ref 60), some (.int x0), some (.int x1), some (.int x2)] [] h := zM_R (by decide) rfl rfl
theorem m120 : zM (d + 1) 120 [.ref 60, .int x0] h Q = zR d 120 Q 0 [some (.ref 60), some (.int x0), none, none] [] h := zM_R (by decide) rfl rfl
theorem m121 : zM (d + 1) 121 [.ref 60, .int x0] h Q = zR d 121 Q 0 [some (.ref 60), some (.int x0)] [] h := zM_R (by decide) rfl rfl
theorem m122 : zM (d + 1) 122 [.ref 60, .int x0] h Q = zR d 122 Q 0 [some (.ref 60), some (.int x0), none] [] h := zM_R (by decide) rfl rfl
theorem m123 : zM (d + 1) 123 [.ref 60, .int x0] h Q = zR d 123 Q 0 [some (.ref 60), some (.int x0), none] [] h := zM_R (by decide) rfl rfl
theorem m124 : zM (d + 1) 124 [.ref 60, .int x0, .int x1] h Q = zR d 124 Q 0 [some (.ref 60), some (.int x0), some (.int x1)] [] h := zM_R (by decide) rfl rfl
theorem m125 : zM (d + 1) 125 [.int x0, .int x1] h Q = zR d 125 Q 0 [some (.int x0), some (.int x1)] [] h := zM_R (by decide) rfl rfl
theorem m126 : zM (d + 1) 126 [.ref 60, .int x0, .int x1] h Q = zR d 126 Q 0 [some (.ref 60), some (.int x0), some (.int x1)] [] h := zM_R (by decide) rfl rfl
theorem m127 : zM (d + 1) 127 [.ref 60, .int x0, .int x1] h Q = zR d 127 Q 0 [some (.ref 60), some (.int x0), some (.int x1)] [] h := zM_R (by decide) rfl rfl
theorem m128 : zM (d + 1) 128 [.ref 60, .int x0, .int x1, .int x2] h Q = zR d 128 Q 0 [some (.ref 60), some (.int x0), some (.int x1), some (.int x2)] [] h := zM_R (by decide) rfl rfl
theorem m129 : zM (d + 1) 129 [.ref 60] h Q = zR d 129 Q 0 [some (.ref 60), none] [] h := zM_R (by decide) rfl rfl
theorem m130 : zM (d + 1) 130 [.ref 60] h Q = zR d 130 Q 0 [some (.ref 60), none] [] h := zM_R (by decide) rfl rfl
theorem m131 : zM (d + 1) 131 [.ref 60, .int x0] h Q = zR d 131 Q 0 [some (.ref 60), some (.int x0)] [] h := zM_R (by decide) rfl rfl
theorem m132 : zM (d + 1) 132 [.int x0] h Q = zR d 132 Q 0 [some (.int x0)] [] h := zM_R (by decide) rfl rfl
theorem m133 : zM (d + 1) 133 [.ref 60, .int x0, .int x1] h Q = zR d 133 Q 0 [some (.ref 60), some (.int x0), some (.int x1)] [] h := zM_R (by decide) rfl rfl
theorem m134 : zM (d + 1) 134 [.ref 60, .int x0] h Q = zR d 134 Q 0 [some (.ref 60), some (.int x0), none] [] h := zM_R (by decide) rfl rfl
theorem m135 : zM (d + 1) 135 [.ref 60, .int x0] h Q = zR d 135 Q 0 [some (.ref 60), some (.int x0)] [] h := zM_R (by decide) rfl rfl
theorem m136 : zM (d + 1) 136 [.ref 60, .int x0] h Q = zR d 136 Q 0 [some (.ref 60), some (.int x0), none, none, none] [] h := zM_R (by decide) rfl rfl
theorem m137 : zM (d + 1) 137 [.ref 60] h Q = zR d 137 Q 0 [some (.ref 60), none, none, none, none, none] [] h := zM_R (by decide) rfl rfl
theorem m138 : zM (d + 1) 138 [.ref 60] h Q = zR d 138 Q 0 [some (.ref 60)] [] h := zM_R (by decide) rfl rfl
theorem m139 : zM (d + 1) 139 [.ref 60, .int x0] h Q = zR d 139 Q 0 [some (.ref 60), some (.int x0), none, none, none] [] h := zM_R (by decide) rfl rfl
theorem m140 : zM (d + 1) 140 [.ref 60, .int x0] h Q = zR d 140 Q 0 [some (.ref 60), some (.int x0)] [] h := zM_R (by decide) rfl rfl
theorem m141 : zM (d + 1) 141 [.ref 60, .int x0] h Q = zR d 141 Q 0 [some (.ref 60), some (.int x0), none, none] [] h := zM_R (by decide) rfl rfl
theorem m142 : zM (d + 1) 142 [.ref 60, .int x0] h Q = zR d 142 Q 0 [some (.ref 60), some (.int x0), none] [] h := zM_R (by decide) rfl rfl
theorem m143 : zM (d + 1) 143 [.ref 60] h Q = zR d 143 Q 0 [some (.ref 60), none] [] h := zM_R (by decide) rfl rfl
theorem m144 : zM (d + 1) 144 [.ref 60] h Q = zR d 144 Q 0 [some (.ref 60), none, none, none] [] h := zM_R (by decide) rfl rfl
theorem m145 : zM (d + 1) 145 [.ref 60, .int x0] h Q = zR d 145 Q 0 [some (.ref 60), some (.int x0), none, none] [] h := zM_R (by decide) rfl rfl
theorem m146 : zM (d + 1) 146 [.ref 60, .int x0] h Q = zR d 146 Q 0 [some (.ref 60), some (.int x0), none, none] [] h := zM_R (by decide) rfl rfl
theorem m147 : zM (d + 1) 147 [.ref 60, .int x0] h Q = zR d 147 Q 0 [some (.ref 60), some (.int x0)] [] h := zM_R (by decide) rfl rfl
theorem m148 : zM (d + 1) 148 [.ref 60] h Q = zR d 148 Q 0 [some (.ref 60), none, none, none] [] h := zM_R (by decide) rfl rfl
theorem m149 : zM (d + 1) 149 [.ref 60, .int x0] h Q = zR d 149 Q 0 [some (.ref 60), some (.int x0), none, none, none, none, none, none, none, none, none] [] h := zM_R (by decide) rfl rfl
theorem m150 : zM (d + 1) 150 [.ref 60] h Q = zR d 150 Q 0 [some (.ref 60), none] [] h := zM_R (by decide) rfl rfl
theorem m151 : zM (d + 1) 151 [.ref 60] h Q = zR d 151 Q 0 [some (.ref 60), none] [] h := zM_R (by decide) rfl rfl
theorem m152 : zM (d + 1) 152 [.ref 60, .int x0] h Q = zR d 152 Q 0 [some (.ref 60), some (.int x0), none] [] h := zM_R (by decide) rfl rfl
theorem m153 : zM (d + 1) 153 [.ref 60, .int x0, .int x1] h Q = zR d 153 Q 0 [some (.ref 60), some (.int x0), some (.int x1), none] [] h := zM_R (by decide) rfl rfl
theorem m154 : zM (d + 1) 154 [.ref 60, .int x0, .int x1] h Q = zR d 154 Q 0 [some (.ref 60), some (.int x0), some (.int x1), none, none, none, none] [] h := zM_R (by decide) rfl rfl
theorem m155 : zM (d + 1) 155 [.ref 60, .int x0, .int x1] h Q = zR d 155 Q 0 [some (.ref 60), some (.int x0), some (.int x1), none, none, none, none] [] h := zM_R (by decide) rfl rfl
theorem m156 : zM (d + 1) 156 [.ref 60, .int x0, .int x1] h Q = zR d 156 Q 0 [some (.ref 60), some (.int x0), some (.int x1), none, none, none, none] [] h := zM_R (by decide) rfl rfl
theorem m157 : zM (d + 1) 157 [.ref 60] h Q = zR d 157 Q 0 [some (.ref 60), none] [] h := zM_R (by decide) rfl rfl
theorem m158 : zM (d + 1) 158 [.ref 60] h Q = zR d 158 Q 0 [some (.ref 60), none, none] [] h := zM_R (by decide) rfl rfl
theorem m159 : zM (d + 1) 159 [.ref 60] h Q = zR d 159 Q 0 [some (.ref 60), none] [] h := zM_R (by decide) rfl rfl
theorem m160 : zM (d + 1) 160 [.ref 60, .int x0, .int x1, .int x2] h Q = zR d 160 Q 0 [some (.ref 60), some (.int x0), some (.int x1), some (.int x2), none, none] [] h := zM_R (by decide) rfl rfl
theorem m161 : zM (d + 1) 161 [.ref 60, .int x0] h Q = zR d 161 Q 0 [some (.ref 60), some (.int x0)] [] h := zM_R (by decide) rfl rfl
theorem m162 : zM (d + 1) 162 [.ref 60, .int x0] h Q = zR d 162 Q 0 [some (.ref 60), some (.int x0)] [] h := zM_R (by decide) rfl rfl
theorem m163 : zM (d + 1) 163 [.ref 60, .int x0] h Q = zR d 163 Q 0 [some (.ref 60), some (.int x0)] [] h := zM_R (by decide) rfl rfl
theorem m164 : zM (d + 1) 164 [.ref 60] h Q = zR d 164 Q 0 [some (.ref 60), none, none] [] h := zM_R (by decide) rfl rfl
theorem m165 : zM (d + 1) 165 [.ref 60, .int x0] h Q = zR d 165 Q 0 [some (.ref 60), some (.int x0)] [] h := zM_R (by decide) rfl rfl
theorem m166 : zM (d + 1) 166 [.ref 60, .int x0, .int x1, .int x2, .int x3] h Q = zR d 166 Q 0 [some (.ref 60), some (.int x0), some (.int x1), some (.int x2), some (.int x3), none] [] h := zM_R (by decide) rfl rfl
theorem m167 : zM (d + 1) 167 [.ref 60] h Q = zR d 167 Q 0 [some (.ref 60)] [] h := zM_R (by decide) rfl rfl
theorem m168 : zM (d + 1) 168 [.int x0, .int x1] h Q = zR d 168 Q 0 [some (.int x0), some (.int x1)] [] h := zM_R (by decide) rfl rfl
theorem m169 : zM (d + 1) 169 [.ref 60, .int x0, .int x1] h Q = zR d 169 Q 0 [some (.ref 60), some (.int x0), some (.int x1)] [] h := zM_R (by decide) rfl rfl
theorem m170 : zM (d + 1) 170 [.ref 60, .int x0] h Q = zR d 170 Q 0 [some (.ref 60), some (.int x0)] [] h := zM_R (by decide) rfl rfl
theorem m171 : zM (d + 1) 171 [.ref 60, .int x0] h Q = zR d 171 Q 0 [some (.ref 60), some (.int x0)] [] h := zM_R (by decide) rfl rfl
theorem m172 : zM (d + 1) 172 [.ref 60, .int x0] h Q = zR d 172 Q 0 [some (.ref 60), some (.int x0), none] [] h := zM_R (by decide) rfl rfl
theorem m173 : zM (d + 1) 173 [.ref 60, .int x0] h Q = zR d 173 Q 0 [some (.ref 60), some (.int x0), none] [] h := zM_R (by decide) rfl rfl
theorem m174 : zM (d + 1) 174 [.ref 60, .int x0] h Q = zR d 174 Q 0 [some (.ref 60), some (.int x0), none] [] h := zM_R (by decide) rfl rfl
theorem m175 : zM (d + 1) 175 [.ref 60, .int x0] h Q = zR d 175 Q 0 [some (.ref 60), some (.int x0)] [] h := zM_R (by decide) rfl rfl
theorem m176 : zM (d + 1) 176 [.ref 60] h Q = zR d 176 Q 0 [some (.ref 60), none, none] [] h := zM_R (by decide) rfl rfl
theorem m177 : zM (d + 1) 177 [.ref 60] h Q = zR d 177 Q 0 [some (.ref 60), none, none] [] h := zM_R (by decide) rfl rfl
theorem m178 : zM (d + 1) 178 [.ref 60, .int x0, .int x1] h Q = zR d 178 Q 0 [some (.ref 60), some (.int x0), some (.int x1)] [] h := zM_R (by decide) rfl rfl
theorem m179 : zM (d + 1) 179 [.ref 60, .int x0] h Q = zR d 179 Q 0 [some (.ref 60), some (.int x0), none, none] [] h := zM_R (by decide) rfl rfl
theorem m180 : zM (d + 1) 180 [.ref 60, .int x0] h Q = zR d 180 Q 0 [some (.ref 60), some (.int x0)] [] h := zM_R (by decide) rfl rfl
theorem m181 : zM (d + 1) 181 [.int x0, .int x1, .int x2] h Q = zR d 181 Q 0 [some (.int x0), some (.int x1), some (.int x2)] [] h := zM_R (by decide) rfl rfl
theorem m182 : zM (d + 1) 182 [.ref 60, .int x0] h Q = zR d 182 Q 0 [some (.ref 60), some (.int x0), none, none, none, none] [] h := zM_R (by decide) rfl rfl
theorem m183 : zM (d + 1) 183 [.int x0] h Q = zR d 183 Q 0 [some (.int x0)] [] h := zM_R (by decide) rfl rfl
theorem m184 : zM (d + 1) 184 [.ref 60, .int x0, .int x1, .int x2] h Q = zR d 184 Q 0 [some (.ref 60), some (.int x0), some (.int x1), some (.int x2), none] [] h := zM_R (by decide) rfl rfl
theorem m185 : zM (d + 1) 185 [.ref 60, .int x0, .int x1, .int x2] h Q = zR d 185 Q 0 [some (.ref 60), some (.int x0), some (.int x1), some (.int x2)] [] h := zM_R (by decide) rfl rfl
theorem m186 : zM (d + 1) 186 [.ref 60, .int x0] h Q = zR d 186 Q 0 [some (.ref 60), some (.int x0), none, none, none, none] [] h := zM_R (by decide) rfl rfl
theorem m187 : zM (d + 1) 187 [.ref 60, .int x0] h Q = zR d 187 Q 0 [some (.ref 60), some (.int x0), none, none] [] h := zM_R (by decide) rfl rfl
theorem m188 : zM (d + 1) 188 [.ref 60, .int x0, .int x1] h Q = zR d 188 Q 0 [some (.ref 60), some (.int x0), some (.int x1), none, none, none, none, none, none] [] h := zM_R (by decide) rfl rfl
theorem m189 : zM (d + 1) 189 [.ref 60, .int x0, .int x1, .int x2, .int x3, .int x4] h Q = zR d 189 Q 0 [some (.ref 60), some (.int x0), some (.int x1), some (.int x2), some (.int x3), some (.int x4), none] [] h := zM_R (by decide) rfl rfl
theorem m190 : zM (d + 1) 190 [.int x0] h Q = zR d 190 Q 0 [some (.int x0)] [] h := zM_R (by decide) rfl rfl
theorem m191 : zM (d + 1) 191 [.ref 60, .int x0, .int x1, .int x2] h Q = zR d 191 Q 0 [some (.ref 60), some (.int x0), some (.int x1), some (.int x2), none, none, none] [] h := zM_R (by decide) rfl rfl
theorem m192 : zM (d + 1) 192 [.ref 60, .int x0, .int x1] h Q = zR d 192 Q 0 [some (.ref 60), some (.int x0), some (.int x1)] [] h := zM_R (by decide) rfl rfl
theorem m193 : zM (d + 1) 193 [.ref 60, .int x0, .int x1] h Q = zR d 193 Q 0 [some (.ref 60), some (.int x0), some (.int x1), none] [] h := zM_R (by decide) rfl rfl
theorem m194 : zM (d + 1) 194 [.ref 60, .int x0, .int x1] h Q = zR d 194 Q 0 [some (.ref 60), some (.int x0), some (.int x1)] [] h := zM_R (by decide) rfl rfl
theorem m195 : zM (d + 1) 195 [.ref 60, .int x0] h Q = zR d 195 Q 0 [some (.ref 60), some (.int x0)] [] h := zM_R (by decide) rfl rfl
theorem m196 : zM (d + 1) 196 [.ref 60, .ref c0, .ref c1] h Q = zR d 196 Q 0 [some (.ref 60), some (.ref c0), some (.ref c1), none] [] h := zM_R (by decide) rfl rfl
theorem m197 : zM (d + 1) 197 [.ref 60, .int x0] h Q = zR d 197 Q 0 [some (.ref 60), some (.int x0), none, none, none] [] h := zM_R (by decide) rfl rfl
theorem m198 : zM (d + 1) 198 [.ref 60] h Q = zR d 198 Q 0 [some (.ref 60)] [] h := zM_R (by decide) rfl rfl
theorem m199 : zM (d + 1) 199 [.ref 60] h Q = zR d 199 Q 0 [some (.ref 60)] [] h := zM_R (by decide) rfl rfl
theorem m200 : zM (d + 1) 200 [.ref 60, .int x0] h Q = zR d 200 Q 0 [some (.ref 60), some (.int x0)] [] h := zM_R (by decide) rfl rfl
theorem m201 : zM (d + 1) 201 [.int x0] h Q = zR d 201 Q 0 [some (.int x0)] [] h := zM_R (by decide) rfl rfl
theorem m1000 : zM (d + 1) 1000 [.int x, .int z] h Q = Q (some (.int (if x < z then z else x))) h := by
  rw [zM_S]
  exact propext ⟨fun q => q.1 (by decide), fun q => ⟨fun _ => q, fun z => absurd z (by decide)⟩⟩
theorem m1001 : zM (d + 1) 1001 [.int x, .int z] h Q = Q (some (.int (if z < x then z else x))) h := by
  rw [zM_S]
  exact propext ⟨fun q => q.1 (by decide), fun q => ⟨fun _ => q, fun z => absurd z (by decide)⟩⟩
theorem m1002 : zM (d + 1) 1002 [.int x] h Q = Q (some (.int (if 0 ≤ x then x else 0 - x))) h := by
  rw [zM_S]
  exact propext ⟨fun q => q.1 (by decide), fun q => ⟨fun _ => q, fun z => absurd z (by decide)⟩⟩
theorem m1003 : zM (d + 1) 1003 [.ref c0, .int x0, .ref c1, .int x1, .int x2] h Q = ((zcls c0 = 10 ∧ zcls c1 = 10 ∧ ¬ x0 < 0 ∧ ¬ x1 < 0 ∧ ¬ x2 < 0 ∧ zix x0 + zix x2 ≤ zaln c0 ∧ zix x1 + zix x2 ≤ zaln c1) ∧ Q none (zhr h c1 (va_cpy (h c0) (h c1) (zix x0) (zix x1) (zix x2)))) := by
  rw [zM_S]
  exact propext ⟨fun q => q.1 (by decide), fun q => ⟨fun _ => q, fun z => absurd z (by decide)⟩⟩
theorem m1004 : zM (d + 9) 1004 [.ref c] h Q = (zcls c = 23 ∧ Q (some (.int 4)) h) := by
  rw [zM_S]
  exact propext ⟨fun q => ⟨(q.1 (by decide)).1.2, (q.1 (by decide)).2⟩, fun q => ⟨fun _ => ⟨⟨by omega, q.1⟩, q.2⟩, fun z => absurd z (by decide)⟩⟩
theorem m1005 : zM (d + 9) 1005 [.ref c, .int x] h Q = ((zcls c = 23 ∧ zok x 4) ∧ Q (some (.int (([[116,111,108,108],[112,117,108,108],[102,105,110,101]].getD (c - 86) []).getD (zix x) 0))) h) := by
  rw [zM_S]
  exact propext ⟨fun q => ⟨⟨(q.1 (by decide)).1.2.1, (q.1 (by decide)).1.2.2⟩, (q.1 (by decide)).2⟩, fun q => ⟨fun _ => ⟨⟨by omega, q.1.1, q.1.2⟩, q.2⟩, fun z => absurd z (by decide)⟩⟩
/-! cells -/
theorem zc_0 : zcls 0 = 6 := rfl
theorem zc_1 : zcls 1 = 1 := rfl
theorem zc_2 : zcls 2 = 10 := rfl
theorem zl_2 {k : Int32 → Prop} : zal 2 x h k = (zok x 14 ∧ k (h 2 (zix x))) := rfl
theorem zs_2 {k : zH → Prop} : zas 2 x z h k = (zok x 14 ∧ k (zhr h 2 (upd (h 2) (zix x) z))) := zand_l rfl
theorem zn_2 {k : Int32 → Prop} : zan 2 h k = k 14 := rfl
theorem zc_3 : zcls 3 = 10 := rfl
theorem zl_3 {k : Int32 → Prop} : zal 3 x h k = (zok x 14 ∧ k (h 3 (zix x))) := rfl
theorem zs_3 {k : zH → Prop} : zas 3 x z h k = (zok x 14 ∧ k (zhr h 3 (upd (h 3) (zix x) z))) := zand_l rfl
theorem zn_3 {k : Int32 → Prop} : zan 3 h k = k 14 := rfl
theorem zc_4 : zcls 4 = 10 := rfl
theorem zl_4 {k : Int32 → Prop} : zal 4 x h k = (zok x 14 ∧ k (h 4 (zix x))) := rfl
theorem zs_4 {k : zH → Prop} : zas 4 x z h k = (zok x 14 ∧ k (zhr h 4 (upd (h 4) (zix x) z))) := zand_l rfl
theorem zn_4 {k : Int32 → Prop} : zan 4 h k = k 14 := rfl
theorem zc_5 : zcls 5 = 10 := rfl
theorem zl_5 {k : Int32 → Prop} : zal 5 x h k = (zok x 1344 ∧ k (h 5 (zix x))) := rfl
theorem zs_5 {k : zH → Prop} : zas 5 x z h k = (zok x 1344 ∧ k (zhr h 5 (upd (h 5) (zix x) z))) := zand_l rfl
theorem zn_5 {k : Int32 → Prop} : zan 5 h k = k 1344 := rfl
theorem zc_6 : zcls 6 = 10 := rfl
theorem zl_6 {k : Int32 → Prop} : zal 6 x h k = (zok x 96 ∧ k (h 6 (zix x))) := rfl
theorem zs_6 {k : zH → Prop} : zas 6 x z h k = (zok x 96 ∧ k (zhr h 6 (upd (h 6) (zix x) z))) := zand_l rfl
theorem zn_6 {k : Int32 → Prop} : zan 6 h k = k 96 := rfl
theorem zc_7 : zcls 7 = 2 := rfl
theorem zc_8 : zcls 8 = 10 := rfl
theorem zl_8 {k : Int32 → Prop} : zal 8 x h k = (zok x 96 ∧ k (h 8 (zix x))) := rfl
theorem zs_8 {k : zH → Prop} : zas 8 x z h k = (zok x 96 ∧ k (zhr h 8 (upd (h 8) (zix x) z))) := zand_l rfl
theorem zn_8 {k : Int32 → Prop} : zan 8 h k = k 96 := rfl
theorem zc_9 : zcls 9 = 10 := rfl
theorem zl_9 {k : Int32 → Prop} : zal 9 x h k = (zok x 96 ∧ k (h 9 (zix x))) := rfl
theorem zs_9 {k : zH → Prop} : zas 9 x z h k = (zok x 96 ∧ k (zhr h 9 (upd (h 9) (zix x) z))) := zand_l rfl
theorem zn_9 {k : Int32 → Prop} : zan 9 h k = k 96 := rfl
theorem zc_10 : zcls 10 = 5 := rfl
theorem zc_11 : zcls 11 = 10 := rfl
theorem zl_11 {k : Int32 → Prop} : zal 11 x h k = (zok x 10 ∧ k (h 11 (zix x))) := rfl
theorem zs_11 {k : zH → Prop} : zas 11 x z h k = (zok x 10 ∧ k (zhr h 11 (upd (h 11) (zix x) z))) := zand_l rfl
theorem zn_11 {k : Int32 → Prop} : zan 11 h k = k 10 := rfl
theorem zc_12 : zcls 12 = 10 := rfl
theorem zl_12 {k : Int32 → Prop} : zal 12 x h k = (zok x 10 ∧ k (h 12 (zix x))) := rfl
theorem zs_12 {k : zH → Prop} : zas 12 x z h k = (zok x 10 ∧ k (zhr h 12 (upd (h 12) (zix x) z))) := zand_l rfl
theorem zn_12 {k : Int32 → Prop} : zan 12 h k = k 10 := rfl
theorem zc_13 : zcls 13 = 10 := rfl
theorem zl_13 {k : Int32 → Prop} : zal 13 x h k = (zok x 10 ∧ k (h 13 (zix x))) := rfl
theorem zs_13 {k : zH → Prop} : zas 13 x z h k = (zok x 10 ∧ k (zhr h 13 (upd (h 13) (zix x) z))) := zand_l rfl
theorem zn_13 {k : Int32 → Prop} : zan 13 h k = k 10 := rfl
theorem zc_14 : zcls 14 = 10 := rfl
theorem zl_14 {k : Int32 → Prop} : zal 14 x h k = (zok x 10 ∧ k (h 14 (zix x))) := rfl
theorem zs_14 {k : zH → Prop} : zas 14 x z h k = (zok x 10 ∧ k (zhr h 14 (upd (h 14) (zix x) z))) := zand_l rfl
theorem zn_14 {k : Int32 → Prop} : zan 14 h k = k 10 := rfl
theorem zc_15 : zcls 15 = 10 := rfl
theorem zl_15 {k : Int32 → Prop} : zal 15 x h k = (zok x 10 ∧ k (h 15 (zix x))) := rfl
theorem zs_15 {k : zH → Prop} : zas 15 x z h k = (zok x 10 ∧ k (zhr h 15 (upd (h 15) (zix x) z))) := zand_l rfl
theorem zn_15 {k : Int32 → Prop} : zan 15 h k = k 10 := rfl
theorem zc_16 : zcls 16 = 10 := rfl
theorem zl_16 {k : Int32 → Prop} : zal 16 x h k = (zok x 6 ∧ k (h 16 (zix x))) := rfl
theorem zs_16 {k : zH → Prop} : zas 16 x z h k = (zok x 6 ∧ k (zhr h 16 (upd (h 16) (zix x) z))) := zand_l rfl
theorem zn_16 {k : Int32 → Prop} : zan 16 h k = k 6 := rfl
theorem zc_17 : zcls 17 = 10 := rfl
theorem zl_17 {k : Int32 → Prop} : zal 17 x h k = (zok x 3 ∧ k (h 17 (zix x))) := rfl
theorem zs_17 {k : zH → Prop} : zas 17 x z h k = (zok x 3 ∧ k (zhr h 17 (upd (h 17) (zix x) z))) := zand_l rfl
theorem zn_17 {k : Int32 → Prop} : zan 17 h k = k 3 := rfl
theorem zc_18 : zcls 18 = 5 := rfl
theorem zc_19 : zcls 19 = 10 := rfl
theorem zl_19 {k : Int32 → Prop} : zal 19 x h k = (zok x 10 ∧ k (h 19 (zix x))) := rfl
theorem zs_19 {k : zH → Prop} : zas 19 x z h k = (zok x 10 ∧ k (zhr h 19 (upd (h 19) (zix x) z))) := zand_l rfl
theorem zn_19 {k : Int32 → Prop} : zan 19 h k = k 10 := rfl
theorem zc_20 : zcls 20 = 10 := rfl
theorem zl_20 {k : Int32 → Prop} : zal 20 x h k = (zok x 10 ∧ k (h 20 (zix x))) := rfl
theorem zs_20 {k : zH → Prop} : zas 20 x z h k = (zok x 10 ∧ k (zhr h 20 (upd (h 20) (zix x) z))) := zand_l rfl
theorem zn_20 {k : Int32 → Prop} : zan 20 h k = k 10 := rfl
theorem zc_21 : zcls 21 = 10 := rfl
theorem zl_21 {k : Int32 → Prop} : zal 21 x h k = (zok x 10 ∧ k (h 21 (zix x))) := rfl
theorem zs_21 {k : zH → Prop} : zas 21 x z h k = (zok x 10 ∧ k (zhr h 21 (upd (h 21) (zix x) z))) := zand_l rfl
theorem zn_21 {k : Int32 → Prop} : zan 21 h k = k 10 := rfl
theorem zc_22 : zcls 22 = 10 := rfl
theorem zl_22 {k : Int32 → Prop} : zal 22 x h k = (zok x 10 ∧ k (h 22 (zix x))) := rfl
theorem zs_22 {k : zH → Prop} : zas 22 x z h k = (zok x 10 ∧ k (zhr h 22 (upd (h 22) (zix x) z))) := zand_l rfl
theorem zn_22 {k : Int32 → Prop} : zan 22 h k = k 10 := rfl
theorem zc_23 : zcls 23 = 10 := rfl
theorem zl_23 {k : Int32 → Prop} : zal 23 x h k = (zok x 10 ∧ k (h 23 (zix x))) := rfl
theorem zs_23 {k : zH → Prop} : zas 23 x z h k = (zok x 10 ∧ k (zhr h 23 (upd (h 23) (zix x) z))) := zand_l rfl
theorem zn_23 {k : Int32 → Prop} : zan 23 h k = k 10 := rfl
theorem zc_24 : zcls 24 = 10 := rfl
theorem zl_24 {k : Int32 → Prop} : zal 24 x h k = (zok x 6 ∧ k (h 24 (zix x))) := rfl
theorem zs_24 {k : zH → Prop} : zas 24 x z h k = (zok x 6 ∧ k (zhr h 24 (upd (h 24) (zix x) z))) := zand_l rfl
theorem zn_24 {k : Int32 → Prop} : zan 24 h k = k 6 := rfl
theorem zc_25 : zcls 25 = 10 := rfl
theorem zl_25 {k : Int32 → Prop} : zal 25 x h k = (zok x 3 ∧ k (h 25 (zix x))) := rfl
theorem zs_25 {k : zH → Prop} : zas 25 x z h k = (zok x 3 ∧ k (zhr h 25 (upd (h 25) (zix x) z))) := zand_l rfl
theorem zn_25 {k : Int32 → Prop} : zan 25 h k = k 3 := rfl
theorem zc_26 : zcls 26 = 5 := rfl
theorem zc_27 : zcls 27 = 10 := rfl
theorem zl_27 {k : Int32 → Prop} : zal 27 x h k = (zok x 10 ∧ k (h 27 (zix x))) := rfl
theorem zs_27 {k : zH → Prop} : zas 27 x z h k = (zok x 10 ∧ k (zhr h 27 (upd (h 27) (zix x) z))) := zand_l rfl
theorem zn_27 {k : Int32 → Prop} : zan 27 h k = k 10 := rfl
theorem zc_28 : zcls 28 = 10 := rfl
theorem zl_28 {k : Int32 → Prop} : zal 28 x h k = (zok x 10 ∧ k (h 28 (zix x))) := rfl
theorem zs_28 {k : zH → Prop} : zas 28 x z h k = (zok x 10 ∧ k (zhr h 28 (upd (h 28) (zix x) z))) := zand_l rfl
theorem zn_28 {k : Int32 → Prop} : zan 28 h k = k 10 := rfl
theorem zc_29 : zcls 29 = 10 := rfl
theorem zl_29 {k : Int32 → Prop} : zal 29 x h k = (zok x 10 ∧ k (h 29 (zix x))) := rfl
theorem zs_29 {k : zH → Prop} : zas 29 x z h k = (zok x 10 ∧ k (zhr h 29 (upd (h 29) (zix x) z))) := zand_l rfl
theorem zn_29 {k : Int32 → Prop} : zan 29 h k = k 10 := rfl
theorem zc_30 : zcls 30 = 10 := rfl
theorem zl_30 {k : Int32 → Prop} : zal 30 x h k = (zok x 10 ∧ k (h 30 (zix x))) := rfl
theorem zs_30 {k : zH → Prop} : zas 30 x z h k = (zok x 10 ∧ k (zhr h 30 (upd (h 30) (zix x) z))) := zand_l rfl
theorem zn_30 {k : Int32 → Prop} : zan 30 h k = k 10 := rfl
theorem zc_31 : zcls 31 = 10 := rfl
theorem zl_31 {k : Int32 → Prop} : zal 31 x h k = (zok x 10 ∧ k (h 31 (zix x))) := rfl
theorem zs_31 {k : zH → Prop} : zas 31 x z h k = (zok x 10 ∧ k (zhr h 31 (upd (h 31) (zix x) z))) := zand_l rfl
theorem zn_31 {k : Int32 → Prop} : zan 31 h k = k 10 := rfl
theorem zc_32 : zcls 32 = 10 := rfl
theorem zl_32 {k : Int32 → Prop} : zal 32 x h k = (zok x 6 ∧ k (h 32 (zix x))) := rfl
theorem zs_32 {k : zH → Prop} : zas 32 x z h k = (zok x 6 ∧ k (zhr h 32 (upd (h 32) (zix x) z))) := zand_l rfl
theorem zn_32 {k : Int32 → Prop} : zan 32 h k = k 6 := rfl
theorem zc_33 : zcls 33 = 10 := rfl
theorem zl_33 {k : Int32 → Prop} : zal 33 x h k = (zok x 3 ∧ k (h 33 (zix x))) := rfl
theorem zs_33 {k : zH → Prop} : zas 33 x z h k = (zok x 3 ∧ k (zhr h 33 (upd (h 33) (zix x) z))) := zand_l rfl
theorem zn_33 {k : Int32 → Prop} : zan 33 h k = k 3 := rfl
theorem zc_34 : zcls 34 = 11 := rfl
theorem za_34 {k : Nat → Prop} : zaa 34 x k = (zok x 4 ∧ k (35 + 2 * zix x)) := rfl
theorem zc_35 : zcls 35 = 3 := rfl
theorem zc_36 : zcls 36 = 10 := rfl
theorem zl_36 {k : Int32 → Prop} : zal 36 x h k = (zok x 24 ∧ k (h 36 (zix x))) := rfl
theorem zs_36 {k : zH → Prop} : zas 36 x z h k = (zok x 24 ∧ k (zhr h 36 (upd (h 36) (zix x) z))) := zand_l rfl
theorem zn_36 {k : Int32 → Prop} : zan 36 h k = k 24 := rfl
theorem zc_37 : zcls 37 = 3 := rfl
theorem zc_38 : zcls 38 = 10 := rfl
theorem zl_38 {k : Int32 → Prop} : zal 38 x h k = (zok x 24 ∧ k (h 38 (zix x))) := rfl
theorem zs_38 {k : zH → Prop} : zas 38 x z h k = (zok x 24 ∧ k (zhr h 38 (upd (h 38) (zix x) z))) := zand_l rfl
theorem zn_38 {k : Int32 → Prop} : zan 38 h k = k 24 := rfl
theorem zc_39 : zcls 39 = 3 := rfl
theorem zc_40 : zcls 40 = 10 := rfl
theorem zl_40 {k : Int32 → Prop} : zal 40 x h k = (zok x 24 ∧ k (h 40 (zix x))) := rfl
theorem zs_40 {k : zH → Prop} : zas 40 x z h k = (zok x 24 ∧ k (zhr h 40 (upd (h 40) (zix x) z))) := zand_l rfl
theorem zn_40 {k : Int32 → Prop} : zan 40 h k = k 24 := rfl
theorem zc_41 : zcls 41 = 3 := rfl
theorem zc_42 : zcls 42 = 10 := rfl
theorem zl_42 {k : Int32 → Prop} : zal 42 x h k = (zok x 24 ∧ k (h 42 (zix x))) := rfl
theorem zs_42 {k : zH → Prop} : zas 42 x z h k = (zok x 24 ∧ k (zhr h 42 (upd (h 42) (zix x) z))) := zand_l rfl
theorem zn_42 {k : Int32 → Prop} : zan 42 h k = k 24 := rfl
theorem zc_43 : zcls 43 = 12 := rfl
theorem za_43 {k : Nat → Prop} : zaa 43 x k = (zok x 5 ∧ k (44 + 3 * zix x)) := rfl
theorem zc_44 : zcls 44 = 4 := rfl
theorem zc_45 : zcls 45 = 3 := rfl
theorem zc_46 : zcls 46 = 10 := rfl
theorem zl_46 {k : Int32 → Prop} : zal 46 x h k = (zok x 24 ∧ k (h 46 (zix x))) := rfl
theorem zs_46 {k : zH → Prop} : zas 46 x z h k = (zok x 24 ∧ k (zhr h 46 (upd (h 46) (zix x) z))) := zand_l rfl
theorem zn_46 {k : Int32 → Prop} : zan 46 h k = k 24 := rfl
theorem zc_47 : zcls 47 = 4 := rfl
theorem zc_48 : zcls 48 = 3 := rfl
theorem zc_49 : zcls 49 = 10 := rfl
theorem zl_49 {k : Int32 → Prop} : zal 49 x h k = (zok x 24 ∧ k (h 49 (zix x))) := rfl
theorem zs_49 {k : zH → Prop} : zas 49 x z h k = (zok x 24 ∧ k (zhr h 49 (upd (h 49) (zix x) z))) := zand_l rfl
theorem zn_49 {k : Int32 → Prop} : zan 49 h k = k 24 := rfl
theorem zc_50 : zcls 50 = 4 := rfl
theorem zc_51 : zcls 51 = 3 := rfl
theorem zc_52 : zcls 52 = 10 := rfl
theorem zl_52 {k : Int32 → Prop} : zal 52 x h k = (zok x 24 ∧ k (h 52 (zix x))) := rfl
theorem zs_52 {k : zH → Prop} : zas 52 x z h k = (zok x 24 ∧ k (zhr h 52 (upd (h 52) (zix x) z))) := zand_l rfl
theorem zn_52 {k : Int32 → Prop} : zan 52 h k = k 24 := rfl
theorem zc_53 : zcls 53 = 4 := rfl
theorem zc_54 : zcls 54 = 3 := rfl
theorem zc_55 : zcls 55 = 10 := rfl
theorem zl_55 {k : Int32 → Prop} : zal 55 x h k = (zok x 24 ∧ k (h 55 (zix x))) := rfl
theorem zs_55 {k : zH → Prop} : zas 55 x z h k = (zok x 24 ∧ k (zhr h 55 (upd (h 55) (zix x) z))) := zand_l rfl
theorem zn_55 {k : Int32 → Prop} : zan 55 h k = k 24 := rfl
theorem zc_56 : zcls 56 = 4 := rfl
theorem zc_57 : zcls 57 = 3 := rfl
theorem zc_58 : zcls 58 = 10 := rfl
theorem zl_58 {k : Int32 → Prop} : zal 58 x h k = (zok x 24 ∧ k (h 58 (zix x))) := rfl
theorem zs_58 {k : zH → Prop} : zas 58 x z h k = (zok x 24 ∧ k (zhr h 58 (upd (h 58) (zix x) z))) := zand_l rfl
theorem zn_58 {k : Int32 → Prop} : zan 58 h k = k 24 := rfl
theorem zc_59 : zcls 59 = 10 := rfl
theorem zl_59 {k : Int32 → Prop} : zal 59 x h k = (zok x 60 ∧ k (h 59 (zix x))) := rfl
theorem zs_59 {k : zH → Prop} : zas 59 x z h k = (zok x 60 ∧ k (zhr h 59 (upd (h 59) (zix x) z))) := zand_l rfl
theorem zn_59 {k : Int32 → Prop} : zan 59 h k = k 60 := rfl
theorem zc_60 : zcls 60 = 7 := rfl
theorem zc_61 : zcls 61 = 10 := rfl
theorem zl_61 {k : Int32 → Prop} : zal 61 x h k = (zok x 3062 ∧ k (h 61 (zix x))) := rfl
theorem zs_61 {k : zH → Prop} : zas 61 x z h k = (zok x 3062 ∧ k (zhr h 61 (upd (h 61) (zix x) z))) := zand_l rfl
theorem zn_61 {k : Int32 → Prop} : zan 61 h k = k 3062 := rfl
theorem zc_62 : zcls 62 = 10 := rfl
theorem zl_62 {k : Int32 → Prop} : zal 62 x h k = (zok x 3062 ∧ k (h 62 (zix x))) := rfl
theorem zs_62 {k : zH → Prop} : zas 62 x z h k = (zok x 3062 ∧ k (zhr h 62 (upd (h 62) (zix x) z))) := zand_l rfl
theorem zn_62 {k : Int32 → Prop} : zan 62 h k = k 3062 := rfl
theorem zc_63 : zcls 63 = 10 := rfl
theorem zl_63 {k : Int32 → Prop} : zal 63 x h k = (zok x 3062 ∧ k (h 63 (zix x))) := rfl
theorem zs_63 {k : zH → Prop} : zas 63 x z h k = (zok x 3062 ∧ k (zhr h 63 (upd (h 63) (zix x) z))) := zand_l rfl
theorem zn_63 {k : Int32 → Prop} : zan 63 h k = k 3062 := rfl
theorem zc_64 : zcls 64 = 10 := rfl
theorem zl_64 {k : Int32 → Prop} : zal 64 x h k = (zok x 4 ∧ k (h 64 (zix x))) := rfl
theorem zs_64 {k : zH → Prop} : zas 64 x z h k = (zok x 4 ∧ k (zhr h 64 (upd (h 64) (zix x) z))) := zand_l rfl
theorem zn_64 {k : Int32 → Prop} : zan 64 h k = k 4 := rfl
theorem zc_65 : zcls 65 = 10 := rfl
theorem zl_65 {k : Int32 → Prop} : zal 65 x h k = (zok x 4 ∧ k (h 65 (zix x))) := rfl
theorem zs_65 {k : zH → Prop} : zas 65 x z h k = (zok x 4 ∧ k (zhr h 65 (upd (h 65) (zix x) z))) := zand_l rfl
theorem zn_65 {k : Int32 → Prop} : zan 65 h k = k 4 := rfl
theorem zc_66 : zcls 66 = 10 := rfl
theorem zl_66 {k : Int32 → Prop} : zal 66 x h k = (zok x 96 ∧ k (h 66 (zix x))) := rfl
theorem zs_66 {k : zH → Prop} : zas 66 x z h k = (zok x 96 ∧ k (zhr h 66 (upd (h 66) (zix x) z))) := zand_l rfl
theorem zn_66 {k : Int32 → Prop} : zan 66 h k = k 96 := rfl
theorem zc_67 : zcls 67 = 10 := rfl
theorem zl_67 {k : Int32 → Prop} : zal 67 x h k = (zok x 5 ∧ k (h 67 (zix x))) := rfl
theorem zs_67 {k : zH → Prop} : zas 67 x z h k = (zok x 5 ∧ k (zhr h 67 (upd (h 67) (zix x) z))) := zand_l rfl
theorem zn_67 {k : Int32 → Prop} : zan 67 h k = k 5 := rfl
theorem zc_68 : zcls 68 = 10 := rfl
theorem zl_68 {k : Int32 → Prop} : zal 68 x h k = (zok x 5 ∧ k (h 68 (zix x))) := rfl
theorem zs_68 {k : zH → Prop} : zas 68 x z h k = (zok x 5 ∧ k (zhr h 68 (upd (h 68) (zix x) z))) := zand_l rfl
theorem zn_68 {k : Int32 → Prop} : zan 68 h k = k 5 := rfl
theorem zc_69 : zcls 69 = 10 := rfl
theorem zl_69 {k : Int32 → Prop} : zal 69 x h k = (zok x 5 ∧ k (h 69 (zix x))) := rfl
theorem zs_69 {k : zH → Prop} : zas 69 x z h k = (zok x 5 ∧ k (zhr h 69 (upd (h 69) (zix x) z))) := zand_l rfl
theorem zn_69 {k : Int32 → Prop} : zan 69 h k = k 5 := rfl
theorem zc_70 : zcls 70 = 10 := rfl
theorem zl_70 {k : Int32 → Prop} : zal 70 x h k = (zok x 5 ∧ k (h 70 (zix x))) := rfl
theorem zs_70 {k : zH → Prop} : zas 70 x z h k = (zok x 5 ∧ k (zhr h 70 (upd (h 70) (zix x) z))) := zand_l rfl
theorem zn_70 {k : Int32 → Prop} : zan 70 h k = k 5 := rfl
theorem zc_71 : zcls 71 = 10 := rfl
theorem zl_71 {k : Int32 → Prop} : zal 71 x h k = (zok x 120 ∧ k (h 71 (zix x))) := rfl
theorem zs_71 {k : zH → Prop} : zas 71 x z h k = (zok x 120 ∧ k (zhr h 71 (upd (h 71) (zix x) z))) := zand_l rfl
theorem zn_71 {k : Int32 → Prop} : zan 71 h k = k 120 := rfl
theorem zc_72 : zcls 72 = 10 := rfl
theorem zl_72 {k : Int32 → Prop} : zal 72 x h k = (zok x 10 ∧ k (h 72 (zix x))) := rfl
theorem zs_72 {k : zH → Prop} : zas 72 x z h k = (zok x 10 ∧ k (zhr h 72 (upd (h 72) (zix x) z))) := zand_l rfl
theorem zn_72 {k : Int32 → Prop} : zan 72 h k = k 10 := rfl
theorem zc_73 : zcls 73 = 10 := rfl
theorem zl_73 {k : Int32 → Prop} : zal 73 x h k = (zok x 62 ∧ k (h 73 (zix x))) := rfl
theorem zs_73 {k : zH → Prop} : zas 73 x z h k = (zok x 62 ∧ k (zhr h 73 (upd (h 73) (zix x) z))) := zand_l rfl
theorem zn_73 {k : Int32 → Prop} : zan 73 h k = k 62 := rfl
theorem zc_74 : zcls 74 = 10 := rfl
theorem zl_74 {k : Int32 → Prop} : zal 74 x h k = (zok x 96 ∧ k (h 74 (zix x))) := rfl
theorem zs_74 {k : zH → Prop} : zas 74 x z h k = (zok x 96 ∧ k (zhr h 74 (upd (h 74) (zix x) z))) := zand_l rfl
theorem zn_74 {k : Int32 → Prop} : zan 74 h k = k 96 := rfl
theorem zc_75 : zcls 75 = 10 := rfl
theorem zl_75 {k : Int32 → Prop} : zal 75 x h k = (zok x 128 ∧ k (h 75 (zix x))) := rfl
theorem zs_75 {k : zH → Prop} : zas 75 x z h k = (zok x 128 ∧ k (zhr h 75 (upd (h 75) (zix x) z))) := zand_l rfl
theorem zn_75 {k : Int32 → Prop} : zan 75 h k = k 128 := rfl
theorem zc_76 : zcls 76 = 10 := rfl
theorem zl_76 {k : Int32 → Prop} : zal 76 x h k = (zok x 100 ∧ k (h 76 (zix x))) := rfl
theorem zs_76 {k : zH → Prop} : zas 76 x z h k = (zok x 100 ∧ k (zhr h 76 (upd (h 76) (zix x) z))) := zand_l rfl
theorem zn_76 {k : Int32 → Prop} : zan 76 h k = k 100 := rfl
theorem zc_77 : zcls 77 = 10 := rfl
theorem zl_77 {k : Int32 → Prop} : zal 77 x h k = (zok x 24 ∧ k (h 77 (zix x))) := rfl
theorem zs_77 {k : zH → Prop} : zas 77 x z h k = (zok x 24 ∧ k (zhr h 77 (upd (h 77) (zix x) z))) := zand_l rfl
theorem zn_77 {k : Int32 → Prop} : zan 77 h k = k 24 := rfl
theorem zc_78 : zcls 78 = 10 := rfl
theorem zl_78 {k : Int32 → Prop} : zal 78 x h k = (zok x 60 ∧ k (h 78 (zix x))) := rfl
theorem zs_78 {k : zH → Prop} : zas 78 x z h k = (zok x 60 ∧ k (zhr h 78 (upd (h 78) (zix x) z))) := zand_l rfl
theorem zn_78 {k : Int32 → Prop} : zan 78 h k = k 60 := rfl
theorem zc_79 : zcls 79 = 10 := rfl
theorem zl_79 {k : Int32 → Prop} : zal 79 x h k = (zok x 60 ∧ k (h 79 (zix x))) := rfl
theorem zs_79 {k : zH → Prop} : zas 79 x z h k = (zok x 60 ∧ k (zhr h 79 (upd (h 79) (zix x) z))) := zand_l rfl
theorem zn_79 {k : Int32 → Prop} : zan 79 h k = k 60 := rfl
theorem zc_80 : zcls 80 = 20 := rfl
theorem zl_80 {k : Int32 → Prop} : zal 80 x h k = (zok x 6 ∧ k (zkon 80 (zix x))) := rfl
theorem zc_81 : zcls 81 = 20 := rfl
theorem zl_81 {k : Int32 → Prop} : zal 81 x h k = (zok x 6 ∧ k (zkon 81 (zix x))) := rfl
theorem zc_82 : zcls 82 = 20 := rfl
theorem zl_82 {k : Int32 → Prop} : zal 82 x h k = (zok x 6 ∧ k (zkon 82 (zix x))) := rfl
theorem zc_83 : zcls 83 = 22 := rfl
theorem zn_83 {k : Int32 → Prop} : zan 83 h k = k 9 := rfl
theorem zc_84 : zcls 84 = 21 := rfl
theorem zl_84 {k : Int32 → Prop} : zal 84 x h k = (zok x (zix (h 85 0)) ∧ k (h 84 (zix x))) := rfl
theorem zn_84 {k : Int32 → Prop} : zan 84 h k = k (h 85 0) := rfl
theorem zc_85 : zcls 85 = 99 := rfl
theorem zc_86 : zcls 86 = 23 := rfl
theorem zc_87 : zcls 87 = 23 := rfl
theorem zc_88 : zcls 88 = 23 := rfl
/-- a State -/
def zst (c : Nat) : Prop := c = 10 ∨ c = 18 ∨ c = 26
theorem zc_s (hc : zst c) : zcls c = 5 := by rcases hc with rfl | rfl | rfl <;> rfl
theorem zc_s1 (hc : zst c) : zcls (c + 1) = 10 := by rcases hc with rfl | rfl | rfl <;> rfl
theorem zaln_s1 (hc : zst c) : zaln (c + 1) = 10 := by rcases hc with rfl | rfl | rfl <;> rfl
theorem zl_s1 (hc : zst c) {k : Int32 → Prop} : zal (c + 1) x h k = (zok x 10 ∧ k (h (c + 1) (zix x))) := by rcases hc with rfl | rfl | rfl <;> rfl
theorem zs_s1 (hc : zst c) {k : zH → Prop} : zas (c + 1) x z h k = (zok x 10 ∧ k (zhr h (c + 1) (upd (h (c + 1)) (zix x) z))) := by rcases hc with rfl | rfl | rfl <;> exact zand_l rfl
theorem zn_s1 (hc : zst c) {k : Int32 → Prop} : zan (c + 1) h k = k 10 := by rcases hc with rfl | rfl | rfl <;> rfl
theorem zc_s2 (hc : zst c) : zcls (c + 2) = 10 := by rcases hc with rfl | rfl | rfl <;> rfl
theorem zaln_s2 (hc : zst c) : zaln (c + 2) = 10 := by rcases hc with rfl | rfl | rfl <;> rfl
theorem zl_s2 (hc : zst c) {k : Int32 → Prop} : zal (c + 2) x h k = (zok x 10 ∧ k (h (c + 2) (zix x))) := by rcases hc with rfl | rfl | rfl <;> rfl
theorem zs_s2 (hc : zst c) {k : zH → Prop} : zas (c + 2) x z h k = (zok x 10 ∧ k (zhr h (c + 2) (upd (h (c + 2)) (zix x) z))) := by rcases hc with rfl | rfl | rfl <;> exact zand_l rfl
theorem zn_s2 (hc : zst c) {k : Int32 → Prop} : zan (c + 2) h k = k 10 := by rcases hc with rfl | rfl | rfl <;> rfl
theorem zc_s3 (hc : zst c) : zcls (c + 3) = 10 := by rcases hc with rfl | rfl | rfl <;> rfl
theorem zaln_s3 (hc : zst c) : zaln (c + 3) = 10 := by rcases hc with rfl | rfl | rfl <;> rfl
theorem zl_s3 (hc : zst c) {k : Int32 → Prop} : zal (c + 3) x h k = (zok x 10 ∧ k (h (c + 3) (zix x))) := by rcases hc with rfl | rfl | rfl <;> rfl
theorem zs_s3 (hc : zst c) {k : zH → Prop} : zas (c + 3) x z h k = (zok x 10 ∧ k (zhr h (c + 3) (upd (h (c + 3)) (zix x) z))) := by rcases hc with rfl | rfl | rfl <;> exact zand_l rfl
theorem zn_s3 (hc : zst c) {k : Int32 → Prop} : zan (c + 3) h k = k 10 := by rcases hc with rfl | rfl | rfl <;> rfl
theorem zc_s4 (hc : zst c) : zcls (c + 4) = 10 := by rcases hc with rfl | rfl | rfl <;> rfl
theorem zaln_s4 (hc : zst c) : zaln (c + 4) = 10 := by rcases hc with rfl | rfl | rfl <;> rfl
theorem zl_s4 (hc : zst c) {k : Int32 → Prop} : zal (c + 4) x h k = (zok x 10 ∧ k (h (c + 4) (zix x))) := by rcases hc with rfl | rfl | rfl <;> rfl
theorem zs_s4 (hc : zst c) {k : zH → Prop} : zas (c + 4) x z h k = (zok x 10 ∧ k (zhr h (c + 4) (upd (h (c + 4)) (zix x) z))) := by rcases hc with rfl | rfl | rfl <;> exact zand_l rfl
theorem zn_s4 (hc : zst c) {k : Int32 → Prop} : zan (c + 4) h k = k 10 := by rcases hc with rfl | rfl | rfl <;> rfl
theorem zc_s5 (hc : zst c) : zcls (c + 5) = 10 := by rcases hc with rfl | rfl | rfl <;> rfl
theorem zaln_s5 (hc : zst c) : zaln (c + 5) = 10 := by rcases hc with rfl | rfl | rfl <;> rfl
theorem zl_s5 (hc : zst c) {k : Int32 → Prop} : zal (c + 5) x h k = (zok x 10 ∧ k (h (c + 5) (zix x))) := by rcases hc with rfl | rfl | rfl <;> rfl
theorem zs_s5 (hc : zst c) {k : zH → Prop} : zas (c + 5) x z h k = (zok x 10 ∧ k (zhr h (c + 5) (upd (h (c + 5)) (zix x) z))) := by rcases hc with rfl | rfl | rfl <;> exact zand_l rfl
theorem zn_s5 (hc : zst c) {k : Int32 → Prop} : zan (c + 5) h k = k 10 := by rcases hc with rfl | rfl | rfl <;> rfl
theorem zc_s6 (hc : zst c) : zcls (c + 6) = 10 := by rcases hc with rfl | rfl | rfl <;> rfl
theorem zaln_s6 (hc : zst c) : zaln (c + 6) = 6 := by rcases hc with rfl | rfl | rfl <;> rfl
theorem zl_s6 (hc : zst c) {k : Int32 → Prop} : zal (c + 6) x h k = (zok x 6 ∧ k (h (c + 6) (zix x))) := by rcases hc with rfl | rfl | rfl <;> rfl
theorem zs_s6 (hc : zst c) {k : zH → Prop} : zas (c + 6) x z h k = (zok x 6 ∧ k (zhr h (c + 6) (upd (h (c + 6)) (zix x) z))) := by rcases hc with rfl | rfl | rfl <;> exact zand_l rfl
theorem zn_s6 (hc : zst c) {k : Int32 → Prop} : zan (c + 6) h k = k 6 := by rcases hc with rfl | rfl | rfl <;> rfl
theorem zc_s7 (hc : zst c) : zcls (c + 7) = 10 := by rcases hc with rfl | rfl | rfl <;> rfl
theorem zaln_s7 (hc : zst c) : zaln (c + 7) = 3 := by rcases hc with rfl | rfl | rfl <;> rfl
theorem zl_s7 (hc : zst c) {k : Int32 → Prop} : zal (c + 7) x h k = (zok x 3 ∧ k (h (c + 7) (zix x))) := by rcases hc with rfl | rfl | rfl <;> rfl
theorem zs_s7 (hc : zst c) {k : zH → Prop} : zas (c + 7) x z h k = (zok x 3 ∧ k (zhr h (c + 7) (upd (h (c + 7)) (zix x) z))) := by rcases hc with rfl | rfl | rfl <;> exact zand_l rfl
theorem zn_s7 (hc : zst c) {k : Int32 → Prop} : zan (c + 7) h k = k 3 := by rcases hc with rfl | rfl | rfl <;> rfl
end
