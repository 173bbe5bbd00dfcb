/-! THE SMALL MACHINE: the rows of its methods; numbers. -/
abbrev jm_n (n : Nat) : jm_V := .inl (nI n)
theorem jm_m0 : jm_Me 0 0 jm_i0 (some .int) 2 50 3 := ⟨rfl, _, rfl, rfl, rfl, rfl, rfl, rfl⟩
theorem jm_m1 : jm_Me 1 0 jm_i1 (some .int) 0 0 3 := ⟨rfl, _, rfl, rfl, rfl, rfl, rfl, rfl⟩
theorem jm_m2 : jm_Me 2 0 jm_i2 (some .int) 0 0 1 := ⟨rfl, _, rfl, rfl, rfl, rfl, rfl, rfl⟩
theorem jm_m3 : jm_Me 3 0 jm_i3 (some .boolean) 0 0 2 := ⟨rfl, _, rfl, rfl, rfl, rfl, rfl, rfl⟩
theorem jm_m4 : jm_Me 4 0 jm_i4 (some .int) 0 0 2 := ⟨rfl, _, rfl, rfl, rfl, rfl, rfl, rfl⟩
theorem jm_m5 : jm_Me 5 0 jm_i5 (some .int) 0 0 2 := ⟨rfl, _, rfl, rfl, rfl, rfl, rfl, rfl⟩
theorem jm_m6 : jm_Me 6 1 jm_i6 none 1 26 2 := ⟨rfl, _, rfl, rfl, rfl, rfl, rfl, rfl⟩
theorem jm_m7 : jm_Me 7 1 jm_i7 (some .boolean) 0 0 2 := ⟨rfl, _, rfl, rfl, rfl, rfl, rfl, rfl⟩
theorem jm_m8 : jm_Me 8 1 jm_i8 (some .boolean) 0 0 2 := ⟨rfl, _, rfl, rfl, rfl, rfl, rfl, rfl⟩
theorem jm_m9 : jm_Me 9 1 jm_i9 (some .boolean) 1 21 2 := ⟨rfl, _, rfl, rfl, rfl, rfl, rfl, rfl⟩
theorem jm_m10 : jm_Me 10 1 jm_i10 (some .boolean) 0 0 2 := ⟨rfl, _, rfl, rfl, rfl, rfl, rfl, rfl⟩
theorem jm_m11 : jm_Me 11 1 jm_i11 (some .boolean) 0 0 2 := ⟨rfl, _, rfl, rfl, rfl, rfl, rfl, rfl⟩
theorem jm_m12 : jm_Me 12 1 jm_i12 (some .boolean) 0 0 2 := ⟨rfl, _, rfl, rfl, rfl, rfl, rfl, rfl⟩
theorem jm_m13 : jm_Me 13 1 jm_i13 (some .boolean) 0 0 4 := ⟨rfl, _, rfl, rfl, rfl, rfl, rfl, rfl⟩
theorem jm_m14 : jm_Me 14 1 jm_i14 (some .boolean) 0 0 2 := ⟨rfl, _, rfl, rfl, rfl, rfl, rfl, rfl⟩
theorem jm_m15 : jm_Me 15 1 jm_i15 none 0 0 3 := ⟨rfl, _, rfl, rfl, rfl, rfl, rfl, rfl⟩
theorem jm_m16 : jm_Me 16 1 jm_i16 none 1 26 3 := ⟨rfl, _, rfl, rfl, rfl, rfl, rfl, rfl⟩
theorem jm_m17 : jm_Me 17 1 jm_i17 none 4 99 3 := ⟨rfl, _, rfl, rfl, rfl, rfl, rfl, rfl⟩
theorem jm_m18 : jm_Me 18 1 jm_i18 none 3 73 7 := ⟨rfl, _, rfl, rfl, rfl, rfl, rfl, rfl⟩
theorem jm_m19 : jm_Me 19 1 jm_i19 none 2 47 2 := ⟨rfl, _, rfl, rfl, rfl, rfl, rfl, rfl⟩
theorem jm_m20 : jm_Me 20 0 jm_i20 (some .int) 0 0 3 := ⟨rfl, _, rfl, rfl, rfl, rfl, rfl, rfl⟩
theorem jm_m21 : jm_Me 21 1 jm_i21 none 1 26 2 := ⟨rfl, _, rfl, rfl, rfl, rfl, rfl, rfl⟩
theorem jm_m22 : jm_Me 22 1 jm_i22 none 2 42 4 := ⟨rfl, _, rfl, rfl, rfl, rfl, rfl, rfl⟩
theorem jm_m23 : jm_Me 23 1 jm_i23 none 0 0 1 := ⟨rfl, _, rfl, rfl, rfl, rfl, rfl, rfl⟩
theorem jm_m24 : jm_Me 24 1 jm_i24 (some .int) 3 73 2 := ⟨rfl, _, rfl, rfl, rfl, rfl, rfl, rfl⟩
theorem jm_m25 : jm_Me 25 1 jm_i25 (some .int) 3 66 3 := ⟨rfl, _, rfl, rfl, rfl, rfl, rfl, rfl⟩
theorem jm_m26 : jm_Me 26 1 jm_i26 (some .boolean) 1 21 2 := ⟨rfl, _, rfl, rfl, rfl, rfl, rfl, rfl⟩
theorem jm_m27 : jm_Me 27 1 jm_i27 (some .int) 2 42 3 := ⟨rfl, _, rfl, rfl, rfl, rfl, rfl, rfl⟩
theorem jm_m28 : jm_Me 28 1 jm_i28 (some .int) 0 0 4 := ⟨rfl, _, rfl, rfl, rfl, rfl, rfl, rfl⟩
theorem jm_m29 : jm_Me 29 1 jm_i29 (some .int) 0 0 3 := ⟨rfl, _, rfl, rfl, rfl, rfl, rfl, rfl⟩
theorem jm_m30 : jm_Me 30 1 jm_i30 (some .int) 1 20 3 := ⟨rfl, _, rfl, rfl, rfl, rfl, rfl, rfl⟩
theorem jm_m31 : jm_Me 31 1 jm_i31 (some .int) 0 0 3 := ⟨rfl, _, rfl, rfl, rfl, rfl, rfl, rfl⟩
theorem jm_m32 : jm_Me 32 1 jm_i32 (some .int) 1 26 5 := ⟨rfl, _, rfl, rfl, rfl, rfl, rfl, rfl⟩
theorem jm_m33 : jm_Me 33 1 jm_i33 (some .int) 1 26 6 := ⟨rfl, _, rfl, rfl, rfl, rfl, rfl, rfl⟩
theorem jm_m34 : jm_Me 34 2 jm_i34 (some .int) 0 0 3 := ⟨rfl, _, rfl, rfl, rfl, rfl, rfl, rfl⟩
theorem jm_m35 : jm_Me 35 2 jm_i35 (some .int) 0 0 3 := ⟨rfl, _, rfl, rfl, rfl, rfl, rfl, rfl⟩
theorem jm_m36 : jm_Me 36 2 jm_i36 (some .int) 2 42 2 := ⟨rfl, _, rfl, rfl, rfl, rfl, rfl, rfl⟩
theorem jm_m37 : jm_Me 37 3 jm_i37 (some .int) 2 50 3 := ⟨rfl, _, rfl, rfl, rfl, rfl, rfl, rfl⟩
theorem jm_m38 : jm_Me 38 3 jm_i38 (some .int) 1 21 2 := ⟨rfl, _, rfl, rfl, rfl, rfl, rfl, rfl⟩
theorem jm_m39 : jm_Me 39 4 jm_i39 (some .int) 0 0 3 := ⟨rfl, _, rfl, rfl, rfl, rfl, rfl, rfl⟩
theorem jm_m40 : jm_Me 40 4 jm_i40 (some .int) 0 0 2 := ⟨rfl, _, rfl, rfl, rfl, rfl, rfl, rfl⟩
theorem jm_m41 : jm_Me 41 5 jm_i41 none 0 0 1 := ⟨rfl, _, rfl, rfl, rfl, rfl, rfl, rfl⟩
theorem jm_m42 : jm_Me 42 5 jm_i42 none 0 0 3 := ⟨rfl, _, rfl, rfl, rfl, rfl, rfl, rfl⟩
theorem jm_m43 : jm_Me 43 5 jm_i43 none 1 23 3 := ⟨rfl, _, rfl, rfl, rfl, rfl, rfl, rfl⟩
theorem jm_m44 : jm_Me 44 5 jm_i44 (some .boolean) 0 0 2 := ⟨rfl, _, rfl, rfl, rfl, rfl, rfl, rfl⟩
theorem jm_m45 : jm_Me 45 5 jm_i45 (some .boolean) 0 0 3 := ⟨rfl, _, rfl, rfl, rfl, rfl, rfl, rfl⟩
theorem jm_m46 : jm_Me 46 5 jm_i46 (some .int) 1 21 2 := ⟨rfl, _, rfl, rfl, rfl, rfl, rfl, rfl⟩
theorem jm_m47 : jm_Me 47 5 jm_i47 none 1 21 3 := ⟨rfl, _, rfl, rfl, rfl, rfl, rfl, rfl⟩
theorem jm_m48 : jm_Me 48 5 jm_i48 (some .boolean) 2 42 2 := ⟨rfl, _, rfl, rfl, rfl, rfl, rfl, rfl⟩
theorem jm_m49 : jm_Me 49 6 jm_i49 (some .int) 2 50 4 := ⟨rfl, _, rfl, rfl, rfl, rfl, rfl, rfl⟩
theorem jm_m50 : jm_Me 50 6 jm_i50 (some .int) 0 0 1 := ⟨rfl, _, rfl, rfl, rfl, rfl, rfl, rfl⟩
theorem jm_m51 : jm_Me 51 6 jm_i51 (some .boolean) 0 0 2 := ⟨rfl, _, rfl, rfl, rfl, rfl, rfl, rfl⟩
theorem jm_m52 : jm_Me 52 6 jm_i52 (some .int) 2 42 2 := ⟨rfl, _, rfl, rfl, rfl, rfl, rfl, rfl⟩
theorem jm_m53 : jm_Me 53 7 jm_i53 (some .int) 2 44 3 := ⟨rfl, _, rfl, rfl, rfl, rfl, rfl, rfl⟩
theorem jm_m54 : jm_Me 54 7 jm_i54 (some .int) 1 21 2 := ⟨rfl, _, rfl, rfl, rfl, rfl, rfl, rfl⟩
theorem jm_m55 : jm_Me 55 7 jm_i55 (some .int) 2 42 2 := ⟨rfl, _, rfl, rfl, rfl, rfl, rfl, rfl⟩
theorem jm_m56 : jm_Me 56 8 jm_i56 (some .int) 0 0 1 := ⟨rfl, _, rfl, rfl, rfl, rfl, rfl, rfl⟩
theorem jm_m57 : jm_Me 57 8 jm_i57 (some .int) 1 20 1 := ⟨rfl, _, rfl, rfl, rfl, rfl, rfl, rfl⟩
theorem jm_m58 : jm_Me 58 8 jm_i58 (some .int) 2 42 4 := ⟨rfl, _, rfl, rfl, rfl, rfl, rfl, rfl⟩
theorem jm_m59 : jm_Me 59 8 jm_i59 (some .boolean) 5 121 4 := ⟨rfl, _, rfl, rfl, rfl, rfl, rfl, rfl⟩
theorem jm_m60 : jm_Me 60 8 jm_i60 (some .boolean) 3 66 6 := ⟨rfl, _, rfl, rfl, rfl, rfl, rfl, rfl⟩
theorem jm_m61 : jm_Me 61 8 jm_i61 (some .boolean) 3 66 4 := ⟨rfl, _, rfl, rfl, rfl, rfl, rfl, rfl⟩
theorem jm_m62 : jm_Me 62 8 jm_i62 (some .boolean) 3 66 4 := ⟨rfl, _, rfl, rfl, rfl, rfl, rfl, rfl⟩
theorem jm_m63 : jm_Me 63 8 jm_i63 (some .boolean) 3 66 5 := ⟨rfl, _, rfl, rfl, rfl, rfl, rfl, rfl⟩
theorem jm_m64 : jm_Me 64 0 jm_i64 (some .int) 0 0 3 := ⟨rfl, _, rfl, rfl, rfl, rfl, rfl, rfl⟩
theorem jm_m65 : jm_Me 65 8 jm_i65 (some .int) 2 42 5 := ⟨rfl, _, rfl, rfl, rfl, rfl, rfl, rfl⟩
theorem jm_m66 : jm_Me 66 9 jm_i66 (some .int) 2 51 3 := ⟨rfl, _, rfl, rfl, rfl, rfl, rfl, rfl⟩
theorem jm_m67 : jm_Me 67 9 jm_i67 (some .int) 1 22 3 := ⟨rfl, _, rfl, rfl, rfl, rfl, rfl, rfl⟩
theorem jm_m68 : jm_Me 68 9 jm_i68 (some .int) 0 0 2 := ⟨rfl, _, rfl, rfl, rfl, rfl, rfl, rfl⟩
theorem jm_m69 : jm_Me 69 9 jm_i69 (some .int) 1 21 2 := ⟨rfl, _, rfl, rfl, rfl, rfl, rfl, rfl⟩
theorem jm_m70 : jm_Me 70 10 jm_i70 (some .int) 0 0 3 := ⟨rfl, _, rfl, rfl, rfl, rfl, rfl, rfl⟩
theorem jm_m71 : jm_Me 71 10 jm_i71 (some .int) 0 0 1 := ⟨rfl, _, rfl, rfl, rfl, rfl, rfl, rfl⟩
theorem jm_m72 : jm_Me 72 10 jm_i72 (some .int) 1 21 2 := ⟨rfl, _, rfl, rfl, rfl, rfl, rfl, rfl⟩
theorem jm_m73 : jm_Me 73 11 jm_i73 (some .int) 7 167 5 := ⟨rfl, _, rfl, rfl, rfl, rfl, rfl, rfl⟩
theorem jm_m74 : jm_Me 74 11 jm_i74 (some .int) 6 144 4 := ⟨rfl, _, rfl, rfl, rfl, rfl, rfl, rfl⟩
theorem jm_m75 : jm_Me 75 11 jm_i75 (some .int) 4 94 3 := ⟨rfl, _, rfl, rfl, rfl, rfl, rfl, rfl⟩
theorem jm_m76 : jm_Me 76 11 jm_i76 (some .int) 1 21 3 := ⟨rfl, _, rfl, rfl, rfl, rfl, rfl, rfl⟩
theorem jm_m77 : jm_Me 77 11 jm_i77 (some .int) 2 42 3 := ⟨rfl, _, rfl, rfl, rfl, rfl, rfl, rfl⟩
theorem jm_m78 : jm_Me 78 11 jm_i78 (some .int) 4 85 4 := ⟨rfl, _, rfl, rfl, rfl, rfl, rfl, rfl⟩
theorem jm_m79 : jm_Me 79 11 jm_i79 (some .int) 2 42 2 := ⟨rfl, _, rfl, rfl, rfl, rfl, rfl, rfl⟩
theorem jm_m80 : jm_Me 80 11 jm_i80 (some .int) 2 42 4 := ⟨rfl, _, rfl, rfl, rfl, rfl, rfl, rfl⟩
theorem jm_m81 : jm_Me 81 11 jm_i81 (some .int) 2 42 6 := ⟨rfl, _, rfl, rfl, rfl, rfl, rfl, rfl⟩
theorem jm_m82 : jm_Me 82 11 jm_i82 (some .int) 2 42 4 := ⟨rfl, _, rfl, rfl, rfl, rfl, rfl, rfl⟩
theorem jm_m83 : jm_Me 83 11 jm_i83 (some .int) 5 121 2 := ⟨rfl, _, rfl, rfl, rfl, rfl, rfl, rfl⟩
theorem jm_m84 : jm_Me 84 11 jm_i84 (some .int) 6 142 4 := ⟨rfl, _, rfl, rfl, rfl, rfl, rfl, rfl⟩
theorem jm_m85 : jm_Me 85 11 jm_i85 (some .int) 6 142 3 := ⟨rfl, _, rfl, rfl, rfl, rfl, rfl, rfl⟩
theorem jm_m86 : jm_Me 86 11 jm_i86 (some .int) 4 99 3 := ⟨rfl, _, rfl, rfl, rfl, rfl, rfl, rfl⟩
theorem jm_m87 : jm_Me 87 11 jm_i87 (some .int) 4 99 5 := ⟨rfl, _, rfl, rfl, rfl, rfl, rfl, rfl⟩
theorem jm_m88 : jm_Me 88 11 jm_i88 (some .int) 5 121 2 := ⟨rfl, _, rfl, rfl, rfl, rfl, rfl, rfl⟩
theorem jm_m89 : jm_Me 89 11 jm_i89 (some .int) 4 99 3 := ⟨rfl, _, rfl, rfl, rfl, rfl, rfl, rfl⟩
theorem jm_m90 : jm_Me 90 11 jm_i90 (some .int) 4 99 3 := ⟨rfl, _, rfl, rfl, rfl, rfl, rfl, rfl⟩
theorem jm_m91 : jm_Me 91 11 jm_i91 (some .int) 6 143 7 := ⟨rfl, _, rfl, rfl, rfl, rfl, rfl, rfl⟩
theorem jm_m92 : jm_Me 92 11 jm_i92 (some .int) 5 121 3 := ⟨rfl, _, rfl, rfl, rfl, rfl, rfl, rfl⟩
theorem jm_m93 : jm_Me 93 11 jm_i93 (some .int) 2 47 3 := ⟨rfl, _, rfl, rfl, rfl, rfl, rfl, rfl⟩
theorem jm_m94 : jm_Me 94 11 jm_i94 (some .int) 5 122 9 := ⟨rfl, _, rfl, rfl, rfl, rfl, rfl, rfl⟩
theorem jm_m95 : jm_Me 95 11 jm_i95 (some .int) 4 99 4 := ⟨rfl, _, rfl, rfl, rfl, rfl, rfl, rfl⟩
theorem jm_m96 : jm_Me 96 11 jm_i96 (some .int) 4 99 6 := ⟨rfl, _, rfl, rfl, rfl, rfl, rfl, rfl⟩
theorem jm_m97 : jm_Me 97 11 jm_i97 (some .int) 7 165 3 := ⟨rfl, _, rfl, rfl, rfl, rfl, rfl, rfl⟩
theorem jm_m98 : jm_Me 98 11 jm_i98 (some .boolean) 6 143 3 := ⟨rfl, _, rfl, rfl, rfl, rfl, rfl, rfl⟩
theorem jm_m99 : jm_Me 99 11 jm_i99 (some .int) 4 99 4 := ⟨rfl, _, rfl, rfl, rfl, rfl, rfl, rfl⟩
theorem jm_m100 : jm_Me 100 11 jm_i100 (some .int) 4 99 4 := ⟨rfl, _, rfl, rfl, rfl, rfl, rfl, rfl⟩
theorem jm_m101 : jm_Me 101 11 jm_i101 (some .int) 6 142 6 := ⟨rfl, _, rfl, rfl, rfl, rfl, rfl, rfl⟩
theorem jm_m102 : jm_Me 102 11 jm_i102 (some .int) 6 142 6 := ⟨rfl, _, rfl, rfl, rfl, rfl, rfl, rfl⟩
theorem jm_m103 : jm_Me 103 11 jm_i103 (some .int) 5 122 5 := ⟨rfl, _, rfl, rfl, rfl, rfl, rfl, rfl⟩
theorem jm_m104 : jm_Me 104 11 jm_i104 none 4 99 4 := ⟨rfl, _, rfl, rfl, rfl, rfl, rfl, rfl⟩
theorem jm_m105 : jm_Me 105 11 jm_i105 (some .int) 2 40 6 := ⟨rfl, _, rfl, rfl, rfl, rfl, rfl, rfl⟩
theorem jm_m106 : jm_Me 106 11 jm_i106 (some .int) 1 20 1 := ⟨rfl, _, rfl, rfl, rfl, rfl, rfl, rfl⟩
theorem jm_m107 : jm_Me 107 11 jm_i107 (some .int) 5 122 8 := ⟨rfl, _, rfl, rfl, rfl, rfl, rfl, rfl⟩
theorem jm_m108 : jm_Me 108 11 jm_i108 none 0 0 4 := ⟨rfl, _, rfl, rfl, rfl, rfl, rfl, rfl⟩
theorem jm_m109 : jm_Me 109 11 jm_i109 (some .boolean) 4 99 4 := ⟨rfl, _, rfl, rfl, rfl, rfl, rfl, rfl⟩
theorem jm_m110 : jm_Me 110 11 jm_i110 (some .int) 6 144 7 := ⟨rfl, _, rfl, rfl, rfl, rfl, rfl, rfl⟩
theorem jm_m111 : jm_Me 111 11 jm_i111 (some .int) 5 121 4 := ⟨rfl, _, rfl, rfl, rfl, rfl, rfl, rfl⟩
theorem jm_m112 : jm_Me 112 11 jm_i112 (some .long) 5 122 9 := ⟨rfl, _, rfl, rfl, rfl, rfl, rfl, rfl⟩
theorem jm_m113 : jm_Me 113 11 jm_i113 none 4 99 4 := ⟨rfl, _, rfl, rfl, rfl, rfl, rfl, rfl⟩
theorem jm_m114 : jm_Me 114 11 jm_i114 (some .long) 0 0 5 := ⟨rfl, _, rfl, rfl, rfl, rfl, rfl, rfl⟩
theorem jm_m115 : jm_Me 115 11 jm_i115 (some .long) 2 58 4 := ⟨rfl, _, rfl, rfl, rfl, rfl, rfl, rfl⟩
theorem jm_m116 : jm_Me 116 11 jm_i116 (some .long) 1 30 9 := ⟨rfl, _, rfl, rfl, rfl, rfl, rfl, rfl⟩
theorem jm_m117 : jm_Me 117 11 jm_i117 (some .long) 0 0 11 := ⟨rfl, _, rfl, rfl, rfl, rfl, rfl, rfl⟩
theorem jm_m118 : jm_Me 118 11 jm_i118 (some .int) 5 112 6 := ⟨rfl, _, rfl, rfl, rfl, rfl, rfl, rfl⟩
theorem jm_m119 : jm_Me 119 11 jm_i119 (some .boolean) 4 88 5 := ⟨rfl, _, rfl, rfl, rfl, rfl, rfl, rfl⟩
theorem jm_m120 : jm_Me 120 11 jm_i120 (some .int) 4 99 5 := ⟨rfl, _, rfl, rfl, rfl, rfl, rfl, rfl⟩
theorem jm_m121 : jm_Me 121 11 jm_i121 (some .int) 5 121 9 := ⟨rfl, _, rfl, rfl, rfl, rfl, rfl, rfl⟩
theorem jm_m122 : jm_Me 122 11 jm_i122 (some .int) 0 0 1 := ⟨rfl, _, rfl, rfl, rfl, rfl, rfl, rfl⟩
theorem jm_m123 : jm_Me 123 11 jm_i123 (some .int) 0 0 1 := ⟨rfl, _, rfl, rfl, rfl, rfl, rfl, rfl⟩
theorem jm_m124 : jm_Me 124 11 jm_i124 (some .int) 2 47 1 := ⟨rfl, _, rfl, rfl, rfl, rfl, rfl, rfl⟩
theorem jm_m125 : jm_Me 125 11 jm_i125 (some .int) 2 47 1 := ⟨rfl, _, rfl, rfl, rfl, rfl, rfl, rfl⟩
theorem jm_m126 : jm_Me 126 11 jm_i126 (some .int) 3 64 2 := ⟨rfl, _, rfl, rfl, rfl, rfl, rfl, rfl⟩
theorem jm_m127 : jm_Me 127 11 jm_i127 (some .int) 2 42 5 := ⟨rfl, _, rfl, rfl, rfl, rfl, rfl, rfl⟩
theorem jm_m128 : jm_Me 128 11 jm_i128 (some .int) 2 45 4 := ⟨rfl, _, rfl, rfl, rfl, rfl, rfl, rfl⟩
theorem jm_m129 : jm_Me 129 11 jm_i129 (some .int) 4 85 5 := ⟨rfl, _, rfl, rfl, rfl, rfl, rfl, rfl⟩
theorem jm_m130 : jm_Me 130 11 jm_i130 (some .int) 2 42 8 := ⟨rfl, _, rfl, rfl, rfl, rfl, rfl, rfl⟩
theorem jm_m131 : jm_Me 131 11 jm_i131 (some .int) 4 85 3 := ⟨rfl, _, rfl, rfl, rfl, rfl, rfl, rfl⟩
theorem jm_m132 : jm_Me 132 11 jm_i132 none 5 121 2 := ⟨rfl, _, rfl, rfl, rfl, rfl, rfl, rfl⟩
theorem jm_m133 : jm_Me 133 11 jm_i133 (some .int) 3 64 2 := ⟨rfl, _, rfl, rfl, rfl, rfl, rfl, rfl⟩
theorem jm_m134 : jm_Me 134 11 jm_i134 (some .int) 3 64 2 := ⟨rfl, _, rfl, rfl, rfl, rfl, rfl, rfl⟩
theorem jm_m135 : jm_Me 135 11 jm_i135 (some .int) 2 42 3 := ⟨rfl, _, rfl, rfl, rfl, rfl, rfl, rfl⟩
theorem jm_m136 : jm_Me 136 11 jm_i136 (some .boolean) 0 0 3 := ⟨rfl, _, rfl, rfl, rfl, rfl, rfl, rfl⟩
theorem jm_m137 : jm_Me 137 11 jm_i137 (some .boolean) 1 22 1 := ⟨rfl, _, rfl, rfl, rfl, rfl, rfl, rfl⟩
theorem jm_m138 : jm_Me 138 11 jm_i138 (some .boolean) 1 22 1 := ⟨rfl, _, rfl, rfl, rfl, rfl, rfl, rfl⟩
theorem jm_m139 : jm_Me 139 11 jm_i139 (some .boolean) 1 22 1 := ⟨rfl, _, rfl, rfl, rfl, rfl, rfl, rfl⟩
theorem jm_m140 : jm_Me 140 11 jm_i140 (some .boolean) 1 22 1 := ⟨rfl, _, rfl, rfl, rfl, rfl, rfl, rfl⟩
theorem jm_m141 : jm_Me 141 11 jm_i141 (some .boolean) 1 22 1 := ⟨rfl, _, rfl, rfl, rfl, rfl, rfl, rfl⟩
theorem jm_m142 : jm_Me 142 11 jm_i142 (some .int) 0 0 1 := ⟨rfl, _, rfl, rfl, rfl, rfl, rfl, rfl⟩
theorem jm_m143 : jm_Me 143 12 jm_i143 (some .boolean) 0 0 3 := ⟨rfl, _, rfl, rfl, rfl, rfl, rfl, rfl⟩
theorem jm_m144 : jm_Me 144 12 jm_i144 (some .int) 0 0 2 := ⟨rfl, _, rfl, rfl, rfl, rfl, rfl, rfl⟩
theorem jm_m145 : jm_Me 145 12 jm_i145 (some .int) 0 0 2 := ⟨rfl, _, rfl, rfl, rfl, rfl, rfl, rfl⟩
theorem jm_m146 : jm_Me 146 12 jm_i146 none 0 0 3 := ⟨rfl, _, rfl, rfl, rfl, rfl, rfl, rfl⟩
theorem jm_m147 : jm_Me 147 12 jm_i147 (some .int) 0 0 2 := ⟨rfl, _, rfl, rfl, rfl, rfl, rfl, rfl⟩
theorem jm_m148 : jm_Me 148 12 jm_i148 (some .int) 0 0 2 := ⟨rfl, _, rfl, rfl, rfl, rfl, rfl, rfl⟩
theorem jm_m149 : jm_Me 149 12 jm_i149 (some .boolean) 1 22 2 := ⟨rfl, _, rfl, rfl, rfl, rfl, rfl, rfl⟩
theorem jm_m150 : jm_Me 150 12 jm_i150 (some .boolean) 1 22 2 := ⟨rfl, _, rfl, rfl, rfl, rfl, rfl, rfl⟩
theorem jm_m151 : jm_Me 151 12 jm_i151 (some .boolean) 1 22 1 := ⟨rfl, _, rfl, rfl, rfl, rfl, rfl, rfl⟩
theorem jm_m152 : jm_Me 152 12 jm_i152 (some .boolean) 0 0 2 := ⟨rfl, _, rfl, rfl, rfl, rfl, rfl, rfl⟩
theorem jm_m153 : jm_Me 153 12 jm_i153 (some .int) 0 0 3 := ⟨rfl, _, rfl, rfl, rfl, rfl, rfl, rfl⟩
theorem jm_m154 : jm_Me 154 12 jm_i154 (some .int) 0 0 1 := ⟨rfl, _, rfl, rfl, rfl, rfl, rfl, rfl⟩
theorem jm_m155 : jm_Me 155 12 jm_i155 (some .int) 1 21 7 := ⟨rfl, _, rfl, rfl, rfl, rfl, rfl, rfl⟩
theorem jm_m156 : jm_Me 156 12 jm_i156 (some .int) 1 21 5 := ⟨rfl, _, rfl, rfl, rfl, rfl, rfl, rfl⟩
theorem jm_m157 : jm_Me 157 12 jm_i157 (some .int) 2 47 4 := ⟨rfl, _, rfl, rfl, rfl, rfl, rfl, rfl⟩
theorem jm_m158 : jm_Me 158 12 jm_i158 (some .int) 1 21 4 := ⟨rfl, _, rfl, rfl, rfl, rfl, rfl, rfl⟩
theorem jm_m159 : jm_Me 159 12 jm_i159 (some .int) 0 0 1 := ⟨rfl, _, rfl, rfl, rfl, rfl, rfl, rfl⟩
theorem jm_m160 : jm_Me 160 12 jm_i160 (some .boolean) 1 21 2 := ⟨rfl, _, rfl, rfl, rfl, rfl, rfl, rfl⟩
theorem jm_m161 : jm_Me 161 12 jm_i161 none 2 42 4 := ⟨rfl, _, rfl, rfl, rfl, rfl, rfl, rfl⟩
theorem jm_m162 : jm_Me 162 12 jm_i162 (some .boolean) 3 70 8 := ⟨rfl, _, rfl, rfl, rfl, rfl, rfl, rfl⟩
theorem jm_m163 : jm_Me 163 12 jm_i163 (some .int) 4 97 4 := ⟨rfl, _, rfl, rfl, rfl, rfl, rfl, rfl⟩
theorem jm_m164 : jm_Me 164 12 jm_i164 none 5 120 4 := ⟨rfl, _, rfl, rfl, rfl, rfl, rfl, rfl⟩
theorem jm_m165 : jm_Me 165 12 jm_i165 (some .int) 1 21 3 := ⟨rfl, _, rfl, rfl, rfl, rfl, rfl, rfl⟩
theorem jm_m166 : jm_Me 166 12 jm_i166 none 1 21 3 := ⟨rfl, _, rfl, rfl, rfl, rfl, rfl, rfl⟩
theorem jm_m167 : jm_Me 167 12 jm_i167 (some .boolean) 0 0 2 := ⟨rfl, _, rfl, rfl, rfl, rfl, rfl, rfl⟩
theorem jm_m168 : jm_Me 168 12 jm_i168 (some .int) 0 0 1 := ⟨rfl, _, rfl, rfl, rfl, rfl, rfl, rfl⟩
theorem jm_m169 : jm_Me 169 12 jm_i169 (some .boolean) 1 22 4 := ⟨rfl, _, rfl, rfl, rfl, rfl, rfl, rfl⟩
theorem jm_m170 : jm_Me 170 12 jm_i170 (some .boolean) 2 45 3 := ⟨rfl, _, rfl, rfl, rfl, rfl, rfl, rfl⟩
theorem jm_m171 : jm_Me 171 12 jm_i171 none 1 21 5 := ⟨rfl, _, rfl, rfl, rfl, rfl, rfl, rfl⟩
theorem jm_m172 : jm_Me 172 12 jm_i172 none 1 21 2 := ⟨rfl, _, rfl, rfl, rfl, rfl, rfl, rfl⟩
theorem jm_m173 : jm_Me 173 12 jm_i173 (some .boolean) 6 143 4 := ⟨rfl, _, rfl, rfl, rfl, rfl, rfl, rfl⟩
theorem jm_m174 : jm_Me 174 12 jm_i174 (some .int) 7 166 8 := ⟨rfl, _, rfl, rfl, rfl, rfl, rfl, rfl⟩
theorem jm_m175 : jm_Me 175 12 jm_i175 (some .int) 3 70 3 := ⟨rfl, _, rfl, rfl, rfl, rfl, rfl, rfl⟩
theorem jm_m176 : jm_Me 176 12 jm_i176 (some .int) 2 43 3 := ⟨rfl, _, rfl, rfl, rfl, rfl, rfl, rfl⟩
theorem jm_m177 : jm_Me 177 12 jm_i177 (some .int) 1 21 4 := ⟨rfl, _, rfl, rfl, rfl, rfl, rfl, rfl⟩
theorem jm_m178 : jm_Me 178 12 jm_i178 (some .int) 2 44 3 := ⟨rfl, _, rfl, rfl, rfl, rfl, rfl, rfl⟩
theorem jm_m179 : jm_Me 179 12 jm_i179 (some .int) 3 63 4 := ⟨rfl, _, rfl, rfl, rfl, rfl, rfl, rfl⟩
theorem jm_m180 : jm_Me 180 12 jm_i180 (some .int) 2 42 2 := ⟨rfl, _, rfl, rfl, rfl, rfl, rfl, rfl⟩
theorem jm_m181 : jm_Me 181 12 jm_i181 (some .int) 2 43 4 := ⟨rfl, _, rfl, rfl, rfl, rfl, rfl, rfl⟩
theorem jm_m182 : jm_Me 182 12 jm_i182 (some .int) 2 42 6 := ⟨rfl, _, rfl, rfl, rfl, rfl, rfl, rfl⟩
theorem jm_m183 : jm_Me 183 12 jm_i183 (some .int) 2 43 4 := ⟨rfl, _, rfl, rfl, rfl, rfl, rfl, rfl⟩
theorem jm_m184 : jm_Me 184 12 jm_i184 (some .int) 6 143 2 := ⟨rfl, _, rfl, rfl, rfl, rfl, rfl, rfl⟩
theorem jm_m185 : jm_Me 185 12 jm_i185 none 6 143 2 := ⟨rfl, _, rfl, rfl, rfl, rfl, rfl, rfl⟩
theorem jm_m186 : jm_Me 186 12 jm_i186 (some .int) 7 164 4 := ⟨rfl, _, rfl, rfl, rfl, rfl, rfl, rfl⟩
theorem jm_m187 : jm_Me 187 12 jm_i187 (some .int) 0 0 3 := ⟨rfl, _, rfl, rfl, rfl, rfl, rfl, rfl⟩
theorem jm_m188 : jm_Me 188 12 jm_i188 (some .int) 7 164 3 := ⟨rfl, _, rfl, rfl, rfl, rfl, rfl, rfl⟩
theorem jm_m189 : jm_Me 189 12 jm_i189 (some .int) 5 120 3 := ⟨rfl, _, rfl, rfl, rfl, rfl, rfl, rfl⟩
theorem jm_m190 : jm_Me 190 12 jm_i190 (some .int) 5 120 5 := ⟨rfl, _, rfl, rfl, rfl, rfl, rfl, rfl⟩
theorem jm_m191 : jm_Me 191 12 jm_i191 (some .int) 5 120 4 := ⟨rfl, _, rfl, rfl, rfl, rfl, rfl, rfl⟩
theorem jm_m192 : jm_Me 192 12 jm_i192 (some .int) 6 143 2 := ⟨rfl, _, rfl, rfl, rfl, rfl, rfl, rfl⟩
theorem jm_m193 : jm_Me 193 12 jm_i193 (some .int) 7 164 2 := ⟨rfl, _, rfl, rfl, rfl, rfl, rfl, rfl⟩
theorem jm_m194 : jm_Me 194 12 jm_i194 (some .int) 7 164 5 := ⟨rfl, _, rfl, rfl, rfl, rfl, rfl, rfl⟩
theorem jm_m195 : jm_Me 195 12 jm_i195 (some .int) 6 143 7 := ⟨rfl, _, rfl, rfl, rfl, rfl, rfl, rfl⟩
theorem jm_m196 : jm_Me 196 12 jm_i196 (some .int) 7 169 3 := ⟨rfl, _, rfl, rfl, rfl, rfl, rfl, rfl⟩
theorem jm_m197 : jm_Me 197 12 jm_i197 (some .int) 5 120 4 := ⟨rfl, _, rfl, rfl, rfl, rfl, rfl, rfl⟩
theorem jm_m198 : jm_Me 198 12 jm_i198 none 1 21 3 := ⟨rfl, _, rfl, rfl, rfl, rfl, rfl, rfl⟩
theorem jm_m199 : jm_Me 199 12 jm_i199 (some .int) 5 120 5 := ⟨rfl, _, rfl, rfl, rfl, rfl, rfl, rfl⟩
theorem jm_m200 : jm_Me 200 12 jm_i200 (some .int) 6 144 9 := ⟨rfl, _, rfl, rfl, rfl, rfl, rfl, rfl⟩
theorem jm_m201 : jm_Me 201 12 jm_i201 (some .int) 5 120 7 := ⟨rfl, _, rfl, rfl, rfl, rfl, rfl, rfl⟩
theorem jm_m202 : jm_Me 202 12 jm_i202 (some .int) 7 169 3 := ⟨rfl, _, rfl, rfl, rfl, rfl, rfl, rfl⟩
theorem jm_m203 : jm_Me 203 12 jm_i203 (some .int) 5 120 5 := ⟨rfl, _, rfl, rfl, rfl, rfl, rfl, rfl⟩
theorem jm_m204 : jm_Me 204 12 jm_i204 (some .int) 5 120 5 := ⟨rfl, _, rfl, rfl, rfl, rfl, rfl, rfl⟩
theorem jm_m205 : jm_Me 205 12 jm_i205 (some .int) 7 164 5 := ⟨rfl, _, rfl, rfl, rfl, rfl, rfl, rfl⟩
theorem jm_m206 : jm_Me 206 12 jm_i206 (some .int) 7 164 6 := ⟨rfl, _, rfl, rfl, rfl, rfl, rfl, rfl⟩
theorem jm_m207 : jm_Me 207 12 jm_i207 (some .int) 5 120 6 := ⟨rfl, _, rfl, rfl, rfl, rfl, rfl, rfl⟩
theorem jm_m208 : jm_Me 208 12 jm_i208 (some .int) 1 21 3 := ⟨rfl, _, rfl, rfl, rfl, rfl, rfl, rfl⟩
theorem jm_m209 : jm_Me 209 12 jm_i209 (some .int) 2 43 4 := ⟨rfl, _, rfl, rfl, rfl, rfl, rfl, rfl⟩
theorem jm_m210 : jm_Me 210 12 jm_i210 (some .int) 0 0 1 := ⟨rfl, _, rfl, rfl, rfl, rfl, rfl, rfl⟩
theorem jm_m211 : jm_Me 211 12 jm_i211 (some .int) 5 120 11 := ⟨rfl, _, rfl, rfl, rfl, rfl, rfl, rfl⟩
theorem jm_m212 : jm_Me 212 12 jm_i212 (some .int) 1 21 5 := ⟨rfl, _, rfl, rfl, rfl, rfl, rfl, rfl⟩
theorem jm_m213 : jm_Me 213 12 jm_i213 (some .int) 6 143 5 := ⟨rfl, _, rfl, rfl, rfl, rfl, rfl, rfl⟩
theorem jm_m214 : jm_Me 214 12 jm_i214 (some .int) 7 167 5 := ⟨rfl, _, rfl, rfl, rfl, rfl, rfl, rfl⟩
theorem jm_m215 : jm_Me 215 12 jm_i215 (some .long) 0 0 10 := ⟨rfl, _, rfl, rfl, rfl, rfl, rfl, rfl⟩
theorem jm_m216 : jm_Me 216 12 jm_i216 (some .long) 1 29 5 := ⟨rfl, _, rfl, rfl, rfl, rfl, rfl, rfl⟩
theorem jm_m217 : jm_Me 217 12 jm_i217 (some .long) 5 120 15 := ⟨rfl, _, rfl, rfl, rfl, rfl, rfl, rfl⟩
theorem jm_m218 : jm_Me 218 12 jm_i218 (some .long) 2 53 5 := ⟨rfl, _, rfl, rfl, rfl, rfl, rfl, rfl⟩
theorem jm_m219 : jm_Me 219 12 jm_i219 (some .int) 3 64 6 := ⟨rfl, _, rfl, rfl, rfl, rfl, rfl, rfl⟩
theorem jm_m220 : jm_Me 220 12 jm_i220 (some .int) 5 120 6 := ⟨rfl, _, rfl, rfl, rfl, rfl, rfl, rfl⟩
theorem jm_m221 : jm_Me 221 12 jm_i221 (some .int) 0 0 2 := ⟨rfl, _, rfl, rfl, rfl, rfl, rfl, rfl⟩
theorem jm_m222 : jm_Me 222 12 jm_i222 (some .int) 6 143 7 := ⟨rfl, _, rfl, rfl, rfl, rfl, rfl, rfl⟩
theorem jm_m223 : jm_Me 223 12 jm_i223 (some .int) 1 22 1 := ⟨rfl, _, rfl, rfl, rfl, rfl, rfl, rfl⟩
theorem jm_m224 : jm_Me 224 12 jm_i224 (some .int) 1 22 1 := ⟨rfl, _, rfl, rfl, rfl, rfl, rfl, rfl⟩
theorem jm_m225 : jm_Me 225 12 jm_i225 (some .int) 2 43 4 := ⟨rfl, _, rfl, rfl, rfl, rfl, rfl, rfl⟩
theorem jm_m226 : jm_Me 226 12 jm_i226 (some .int) 0 0 1 := ⟨rfl, _, rfl, rfl, rfl, rfl, rfl, rfl⟩
theorem jm_m227 : jm_Me 227 12 jm_i227 (some .boolean) 1 22 1 := ⟨rfl, _, rfl, rfl, rfl, rfl, rfl, rfl⟩
theorem jm_m228 : jm_Me 228 12 jm_i228 (some .int) 2 42 3 := ⟨rfl, _, rfl, rfl, rfl, rfl, rfl, rfl⟩
theorem jm_m229 : jm_Me 229 12 jm_i229 (some .int) 2 42 2 := ⟨rfl, _, rfl, rfl, rfl, rfl, rfl, rfl⟩
theorem jm_m230 : jm_Me 230 12 jm_i230 (some .int) 2 42 5 := ⟨rfl, _, rfl, rfl, rfl, rfl, rfl, rfl⟩
theorem jm_m231 : jm_Me 231 12 jm_i231 (some .int) 2 42 5 := ⟨rfl, _, rfl, rfl, rfl, rfl, rfl, rfl⟩
theorem jm_m232 : jm_Me 232 12 jm_i232 (some .int) 3 64 5 := ⟨rfl, _, rfl, rfl, rfl, rfl, rfl, rfl⟩
theorem jm_m233 : jm_Me 233 12 jm_i233 (some .long) 2 42 3 := ⟨rfl, _, rfl, rfl, rfl, rfl, rfl, rfl⟩
theorem jm_m234 : jm_Me 234 12 jm_i234 (some .int) 2 42 8 := ⟨rfl, _, rfl, rfl, rfl, rfl, rfl, rfl⟩
theorem jm_m235 : jm_Me 235 12 jm_i235 (some .int) 0 0 2 := ⟨rfl, _, rfl, rfl, rfl, rfl, rfl, rfl⟩
theorem jm_m236 : jm_Me 236 12 jm_i236 (some .int) 3 63 3 := ⟨rfl, _, rfl, rfl, rfl, rfl, rfl, rfl⟩
theorem jm_m237 : jm_Me 237 12 jm_i237 (some .int) 3 63 5 := ⟨rfl, _, rfl, rfl, rfl, rfl, rfl, rfl⟩
theorem jm_m238 : jm_Me 238 13 jm_i238 (some .int) 0 0 1 := ⟨rfl, _, rfl, rfl, rfl, rfl, rfl, rfl⟩
theorem jm_m239 : jm_Me 239 14 jm_i239 none 0 0 4 := ⟨rfl, _, rfl, rfl, rfl, rfl, rfl, rfl⟩
theorem nI_mul (a b : Nat) : nI a * nI b = nI (a * b) := (Int32.ofNat_mul a b).symm
theorem nI_subN {a b : Nat} (h : b ≤ a) : nI a - nI b = nI (a - b) := by
  have : nI a = nI (a - b) + nI b := by rw [nI_add, Nat.sub_add_cancel h]
  rw [this, Int32.add_sub_cancel]
theorem nI_inj {a b : Nat} (ha : a < 2 ^ 31) (hb : b < 2 ^ 31) (h : nI a = nI b) : a = b := (nI_eq ha hb).mp h
theorem nI_neg {a : Nat} (ha : a < 2 ^ 31) : ¬ nI a < 0 := nI_pos ha
/-- an int within least 0 and a number -/
theorem nI_win {x : Int32} {k : Nat} (hk : k < 2 ^ 31) (h0 : 0 ≤ x) (h1 : x ≤ nI k) : ∃ j : Nat, j ≤ k ∧ x = nI j := nI_of2 (nI_toInt hk) (Int32.not_lt.mpr h0) h1
section JMT
variable {mi own fr lo mx pc nxt tgt : Nat} {il : List jm_IT} {ret : Option FieldType} {Q Q' : Option jm_V → jm_M → Prop} {L L' : jm_L} {st : List jm_V} {h : jm_M} {v : Int32} {x y : Int32} {o : Int}
theorem jt_ti (e : x = y) (k : jt_T mi (pc, L, .inl y :: st, h) Q) : jt_T mi (pc, L, .inl x :: st, h) Q := by rw [e]; exact k
theorem jt_tl {a b : Int64} (e : a = b) (k : jt_T mi (pc, L, .inr (.inl b) :: st, h) Q) : jt_T mi (pc, L, .inr (.inl a) :: st, h) Q := by rw [e]; exact k
theorem jt_tr {a b : jm_K} (e : a = b) (k : jt_T mi (pc, L, .inr (.inr b) :: st, h) Q) : jt_T mi (pc, L, .inr (.inr a) :: st, h) Q := by rw [e]; exact k
theorem jt_tn (k : ∀ z : Int32, z = x → jt_T mi (pc, L, .inl z :: st, h) Q) : jt_T mi (pc, L, .inl x :: st, h) Q := k x rfl
theorem jt_eL (e : L = L') (k : jt_T mi (pc, L', st, h) Q) : jt_T mi (pc, L, st, h) Q := by rw [e]; exact k
theorem jt_eM {h' : jm_M} (e : h = h') (k : jt_T mi (pc, L, st, h') Q) : jt_T mi (pc, L, st, h) Q := by rw [e]; exact k
theorem jt_niclt (hm : jm_Me mi own il ret fr lo mx) (i : Nat) {a b : Nat} (ha : a < 2 ^ 31) (hb : b < 2 ^ 31) (hq : il[i]? = some (pc, .if_icmp .lt o, 3, v)) (hg : jm_tg pc o = tgt) (hn : pc + 3 = nxt) (k1 : a < b → jt_T mi (tgt, L, st, h) Q) (k2 : b ≤ a → jt_T mi (nxt, L, st, h) Q) : jt_T mi (pc, L, .inl (nI b) :: .inl (nI a) :: st, h) Q :=
  jt_iclt hm i hq hg hn (fun z => k1 ((nI_ltI ha hb).mp z)) (fun z => k2 (Nat.not_lt.mp (fun w => z ((nI_ltI ha hb).mpr w))))
theorem jt_nicge (hm : jm_Me mi own il ret fr lo mx) (i : Nat) {a b : Nat} (ha : a < 2 ^ 31) (hb : b < 2 ^ 31) (hq : il[i]? = some (pc, .if_icmp .ge o, 3, v)) (hg : jm_tg pc o = tgt) (hn : pc + 3 = nxt) (k1 : b ≤ a → jt_T mi (tgt, L, st, h) Q) (k2 : a < b → jt_T mi (nxt, L, st, h) Q) : jt_T mi (pc, L, .inl (nI b) :: .inl (nI a) :: st, h) Q :=
  jt_icge hm i hq hg hn (fun z => k1 (Nat.not_lt.mp (fun w => z ((nI_ltI ha hb).mpr w)))) (fun z => k2 ((nI_ltI ha hb).mp z))
theorem jt_nicgt (hm : jm_Me mi own il ret fr lo mx) (i : Nat) {a b : Nat} (ha : a < 2 ^ 31) (hb : b < 2 ^ 31) (hq : il[i]? = some (pc, .if_icmp .gt o, 3, v)) (hg : jm_tg pc o = tgt) (hn : pc + 3 = nxt) (k1 : b < a → jt_T mi (tgt, L, st, h) Q) (k2 : a ≤ b → jt_T mi (nxt, L, st, h) Q) : jt_T mi (pc, L, .inl (nI b) :: .inl (nI a) :: st, h) Q :=
  jt_icgt hm i hq hg hn (fun z => k1 ((nI_ltI hb ha).mp z)) (fun z => k2 (Nat.not_lt.mp (fun w => z ((nI_ltI hb ha).mpr w))))
theorem jt_nicle (hm : jm_Me mi own il ret fr lo mx) (i : Nat) {a b : Nat} (ha : a < 2 ^ 31) (hb : b < 2 ^ 31) (hq : il[i]? = some (pc, .if_icmp .le o, 3, v)) (hg : jm_tg pc o = tgt) (hn : pc + 3 = nxt) (k1 : a ≤ b → jt_T mi (tgt, L, st, h) Q) (k2 : b < a → jt_T mi (nxt, L, st, h) Q) : jt_T mi (pc, L, .inl (nI b) :: .inl (nI a) :: st, h) Q :=
  jt_icle hm i hq hg hn (fun z => k1 (Nat.not_lt.mp (fun w => z ((nI_ltI hb ha).mpr w)))) (fun z => k2 ((nI_ltI hb ha).mp z))
theorem jt_niceq (hm : jm_Me mi own il ret fr lo mx) (i : Nat) {a b : Nat} (ha : a < 2 ^ 31) (hb : b < 2 ^ 31) (hq : il[i]? = some (pc, .if_icmp .eq o, 3, v)) (hg : jm_tg pc o = tgt) (hn : pc + 3 = nxt) (k1 : a = b → jt_T mi (tgt, L, st, h) Q) (k2 : ¬ a = b → jt_T mi (nxt, L, st, h) Q) : jt_T mi (pc, L, .inl (nI b) :: .inl (nI a) :: st, h) Q :=
  jt_iceq hm i hq hg hn (fun z => k1 ((nI_eq ha hb).mp z)) (fun z => k2 (fun w => z ((nI_eq ha hb).mpr w)))
theorem jt_nicne (hm : jm_Me mi own il ret fr lo mx) (i : Nat) {a b : Nat} (ha : a < 2 ^ 31) (hb : b < 2 ^ 31) (hq : il[i]? = some (pc, .if_icmp .ne o, 3, v)) (hg : jm_tg pc o = tgt) (hn : pc + 3 = nxt) (k1 : ¬ a = b → jt_T mi (tgt, L, st, h) Q) (k2 : a = b → jt_T mi (nxt, L, st, h) Q) : jt_T mi (pc, L, .inl (nI b) :: .inl (nI a) :: st, h) Q :=
  jt_icne hm i hq hg hn (fun z => k1 (fun w => z ((nI_eq ha hb).mpr w))) (fun z => k2 ((nI_eq ha hb).mp z))
theorem jt_nifeq (hm : jm_Me mi own il ret fr lo mx) (i : Nat) {a : Nat} (ha : a < 2 ^ 31) (hq : il[i]? = some (pc, .ifCond .eq o, 3, v)) (hg : jm_tg pc o = tgt) (hn : pc + 3 = nxt) (k1 : a = 0 → jt_T mi (tgt, L, st, h) Q) (k2 : ¬ a = 0 → jt_T mi (nxt, L, st, h) Q) : jt_T mi (pc, L, .inl (nI a) :: st, h) Q :=
  jt_ifeq hm i hq hg hn (fun z => k1 ((nI_eq ha (by decide)).mp z)) (fun z => k2 (fun w => z ((nI_eq ha (by decide)).mpr w)))
theorem jt_nifne (hm : jm_Me mi own il ret fr lo mx) (i : Nat) {a : Nat} (ha : a < 2 ^ 31) (hq : il[i]? = some (pc, .ifCond .ne o, 3, v)) (hg : jm_tg pc o = tgt) (hn : pc + 3 = nxt) (k1 : ¬ a = 0 → jt_T mi (tgt, L, st, h) Q) (k2 : a = 0 → jt_T mi (nxt, L, st, h) Q) : jt_T mi (pc, L, .inl (nI a) :: st, h) Q :=
  jt_ifne hm i hq hg hn (fun z => k1 (fun w => z ((nI_eq ha (by decide)).mpr w))) (fun z => k2 ((nI_eq ha (by decide)).mp z))
theorem jt_nifgt (hm : jm_Me mi own il ret fr lo mx) (i : Nat) {a : Nat} (ha : a < 2 ^ 31) (hq : il[i]? = some (pc, .ifCond .gt o, 3, v)) (hg : jm_tg pc o = tgt) (hn : pc + 3 = nxt) (k1 : 0 < a → jt_T mi (tgt, L, st, h) Q) (k2 : a = 0 → jt_T mi (nxt, L, st, h) Q) : jt_T mi (pc, L, .inl (nI a) :: st, h) Q :=
  jt_ifgt hm i hq hg hn (fun z => k1 ((nI_ltI (a := 0) (by decide) ha).mp z)) (fun z => k2 (Nat.le_zero.mp (Nat.not_lt.mp (fun w => z ((nI_ltI (a := 0) (by decide) ha).mpr w)))))
theorem jt_nifle (hm : jm_Me mi own il ret fr lo mx) (i : Nat) {a : Nat} (ha : a < 2 ^ 31) (hq : il[i]? = some (pc, .ifCond .le o, 3, v)) (hg : jm_tg pc o = tgt) (hn : pc + 3 = nxt) (k1 : a = 0 → jt_T mi (tgt, L, st, h) Q) (k2 : 0 < a → jt_T mi (nxt, L, st, h) Q) : jt_T mi (pc, L, .inl (nI a) :: st, h) Q :=
  jt_ifle hm i hq hg hn (fun z => k1 (Nat.le_zero.mp (Nat.not_lt.mp (fun w => z ((nI_ltI (a := 0) (by decide) ha).mpr w))))) (fun z => k2 ((nI_ltI (a := 0) (by decide) ha).mp z))
theorem jt_nifge (hm : jm_Me mi own il ret fr lo mx) (i : Nat) {a : Nat} (ha : a < 2 ^ 31) (hq : il[i]? = some (pc, .ifCond .ge o, 3, v)) (hg : jm_tg pc o = tgt) (hn : pc + 3 = nxt) (k1 : True → jt_T mi (tgt, L, st, h) Q)  : jt_T mi (pc, L, .inl (nI a) :: st, h) Q :=
  jt_ifge hm i hq hg hn (fun _ => k1 trivial) (fun z => absurd z (nI_neg ha))
theorem jt_niflt (hm : jm_Me mi own il ret fr lo mx) (i : Nat) {a : Nat} (ha : a < 2 ^ 31) (hq : il[i]? = some (pc, .ifCond .lt o, 3, v)) (hg : jm_tg pc o = tgt) (hn : pc + 3 = nxt)  (k2 : True → jt_T mi (nxt, L, st, h) Q) : jt_T mi (pc, L, .inl (nI a) :: st, h) Q :=
  jt_iflt hm i hq hg hn (fun z => absurd z (nI_neg ha)) (fun _ => k2 trivial)
end JMT
