/-! ===== the book's facts, by name ===== -/
theorem cO0 {G : aG} {ad : Nat → Nat} (h : CB G ad) : isObj G (ad 0) 9 := cb_o h (by decide) rfl
theorem cO1 {G : aG} {ad : Nat → Nat} (h : CB G ad) : isObj G (ad 1) 7 := cb_o h (by decide) rfl
theorem cA2 {G : aG} {ad : Nat → Nat} (h : CB G ad) : isArr G (ad 2) 2 180 := cb_a h (by decide) rfl
theorem cO3 {G : aG} {ad : Nat → Nat} (h : CB G ad) : isObj G (ad 3) 8 := cb_o h (by decide) rfl
theorem cA4 {G : aG} {ad : Nat → Nat} (h : CB G ad) : isArr G (ad 4) 0 6 := cb_a h (by decide) rfl
theorem cA5 {G : aG} {ad : Nat → Nat} (h : CB G ad) : isArr G (ad 5) 0 6 := cb_a h (by decide) rfl
theorem cA6 {G : aG} {ad : Nat → Nat} (h : CB G ad) : isArr G (ad 6) 0 6 := cb_a h (by decide) rfl
theorem cA7 {G : aG} {ad : Nat → Nat} (h : CB G ad) : isArr G (ad 7) 0 10 := cb_a h (by decide) rfl
theorem cA8 {G : aG} {ad : Nat → Nat} (h : CB G ad) : isArr G (ad 8) 0 10 := cb_a h (by decide) rfl
theorem cA9 {G : aG} {ad : Nat → Nat} (h : CB G ad) : isArr G (ad 9) 0 10 := cb_a h (by decide) rfl
theorem cA10 {G : aG} {ad : Nat → Nat} (h : CB G ad) : isArr G (ad 10) 0 10 := cb_a h (by decide) rfl
theorem cO11 {G : aG} {ad : Nat → Nat} (h : CB G ad) : isObj G (ad 11) 8 := cb_o h (by decide) rfl
theorem cA12 {G : aG} {ad : Nat → Nat} (h : CB G ad) : isArr G (ad 12) 0 6 := cb_a h (by decide) rfl
theorem cA13 {G : aG} {ad : Nat → Nat} (h : CB G ad) : isArr G (ad 13) 0 6 := cb_a h (by decide) rfl
theorem cA14 {G : aG} {ad : Nat → Nat} (h : CB G ad) : isArr G (ad 14) 0 6 := cb_a h (by decide) rfl
theorem cA15 {G : aG} {ad : Nat → Nat} (h : CB G ad) : isArr G (ad 15) 0 10 := cb_a h (by decide) rfl
theorem cA16 {G : aG} {ad : Nat → Nat} (h : CB G ad) : isArr G (ad 16) 0 10 := cb_a h (by decide) rfl
theorem cA17 {G : aG} {ad : Nat → Nat} (h : CB G ad) : isArr G (ad 17) 0 10 := cb_a h (by decide) rfl
theorem cA18 {G : aG} {ad : Nat → Nat} (h : CB G ad) : isArr G (ad 18) 0 10 := cb_a h (by decide) rfl
theorem cO19 {G : aG} {ad : Nat → Nat} (h : CB G ad) : isObj G (ad 19) 4 := cb_o h (by decide) rfl
theorem cA20 {G : aG} {ad : Nat → Nat} (h : CB G ad) : isArr G (ad 20) 0 6 := cb_a h (by decide) rfl
theorem cO21 {G : aG} {ad : Nat → Nat} (h : CB G ad) : isObj G (ad 21) 1 := cb_o h (by decide) rfl
theorem cA22 {G : aG} {ad : Nat → Nat} (h : CB G ad) : isArr G (ad 22) 4 10 := cb_a h (by decide) rfl
theorem cO23 {G : aG} {ad : Nat → Nat} (h : CB G ad) : isObj G (ad 23) 4 := cb_o h (by decide) rfl
theorem cA24 {G : aG} {ad : Nat → Nat} (h : CB G ad) : isArr G (ad 24) 0 6 := cb_a h (by decide) rfl
theorem cO25 {G : aG} {ad : Nat → Nat} (h : CB G ad) : isObj G (ad 25) 4 := cb_o h (by decide) rfl
theorem cA26 {G : aG} {ad : Nat → Nat} (h : CB G ad) : isArr G (ad 26) 0 6 := cb_a h (by decide) rfl
theorem cO27 {G : aG} {ad : Nat → Nat} (h : CB G ad) : isObj G (ad 27) 4 := cb_o h (by decide) rfl
theorem cA28 {G : aG} {ad : Nat → Nat} (h : CB G ad) : isArr G (ad 28) 0 6 := cb_a h (by decide) rfl
theorem cO29 {G : aG} {ad : Nat → Nat} (h : CB G ad) : isObj G (ad 29) 4 := cb_o h (by decide) rfl
theorem cA30 {G : aG} {ad : Nat → Nat} (h : CB G ad) : isArr G (ad 30) 0 6 := cb_a h (by decide) rfl
theorem cO31 {G : aG} {ad : Nat → Nat} (h : CB G ad) : isObj G (ad 31) 4 := cb_o h (by decide) rfl
theorem cA32 {G : aG} {ad : Nat → Nat} (h : CB G ad) : isArr G (ad 32) 0 6 := cb_a h (by decide) rfl
theorem cO33 {G : aG} {ad : Nat → Nat} (h : CB G ad) : isObj G (ad 33) 4 := cb_o h (by decide) rfl
theorem cA34 {G : aG} {ad : Nat → Nat} (h : CB G ad) : isArr G (ad 34) 0 6 := cb_a h (by decide) rfl
theorem cO35 {G : aG} {ad : Nat → Nat} (h : CB G ad) : isObj G (ad 35) 4 := cb_o h (by decide) rfl
theorem cA36 {G : aG} {ad : Nat → Nat} (h : CB G ad) : isArr G (ad 36) 0 6 := cb_a h (by decide) rfl
theorem cO37 {G : aG} {ad : Nat → Nat} (h : CB G ad) : isObj G (ad 37) 4 := cb_o h (by decide) rfl
theorem cA38 {G : aG} {ad : Nat → Nat} (h : CB G ad) : isArr G (ad 38) 0 6 := cb_a h (by decide) rfl
theorem cO39 {G : aG} {ad : Nat → Nat} (h : CB G ad) : isObj G (ad 39) 4 := cb_o h (by decide) rfl
theorem cA40 {G : aG} {ad : Nat → Nat} (h : CB G ad) : isArr G (ad 40) 0 6 := cb_a h (by decide) rfl
theorem cO41 {G : aG} {ad : Nat → Nat} (h : CB G ad) : isObj G (ad 41) 4 := cb_o h (by decide) rfl
theorem cA42 {G : aG} {ad : Nat → Nat} (h : CB G ad) : isArr G (ad 42) 0 6 := cb_a h (by decide) rfl
theorem cA43 {G : aG} {ad : Nat → Nat} (h : CB G ad) : isArr G (ad 43) 4 2 := cb_a h (by decide) rfl
theorem cO44 {G : aG} {ad : Nat → Nat} (h : CB G ad) : isObj G (ad 44) 4 := cb_o h (by decide) rfl
theorem cA45 {G : aG} {ad : Nat → Nat} (h : CB G ad) : isArr G (ad 45) 0 6 := cb_a h (by decide) rfl
theorem cO46 {G : aG} {ad : Nat → Nat} (h : CB G ad) : isObj G (ad 46) 4 := cb_o h (by decide) rfl
theorem cA47 {G : aG} {ad : Nat → Nat} (h : CB G ad) : isArr G (ad 47) 0 6 := cb_a h (by decide) rfl
theorem cO48 {G : aG} {ad : Nat → Nat} (h : CB G ad) : isObj G (ad 48) 3 := cb_o h (by decide) rfl
theorem cO49 {G : aG} {ad : Nat → Nat} (h : CB G ad) : isObj G (ad 49) 4 := cb_o h (by decide) rfl
theorem cA50 {G : aG} {ad : Nat → Nat} (h : CB G ad) : isArr G (ad 50) 0 6 := cb_a h (by decide) rfl
theorem cO51 {G : aG} {ad : Nat → Nat} (h : CB G ad) : isObj G (ad 51) 5 := cb_o h (by decide) rfl
theorem cO52 {G : aG} {ad : Nat → Nat} (h : CB G ad) : isObj G (ad 52) 4 := cb_o h (by decide) rfl
theorem cA53 {G : aG} {ad : Nat → Nat} (h : CB G ad) : isArr G (ad 53) 0 6 := cb_a h (by decide) rfl
theorem cA54 {G : aG} {ad : Nat → Nat} (h : CB G ad) : isArr G (ad 54) 0 32 := cb_a h (by decide) rfl
theorem cA55 {G : aG} {ad : Nat → Nat} (h : CB G ad) : isArr G (ad 55) 5 6 := cb_a h (by decide) rfl
theorem cA56 {G : aG} {ad : Nat → Nat} (h : CB G ad) : isArr G (ad 56) 0 32 := cb_a h (by decide) rfl
theorem cA57 {G : aG} {ad : Nat → Nat} (h : CB G ad) : isArr G (ad 57) 0 32 := cb_a h (by decide) rfl
theorem cA58 {G : aG} {ad : Nat → Nat} (h : CB G ad) : isArr G (ad 58) 0 32 := cb_a h (by decide) rfl
theorem cA59 {G : aG} {ad : Nat → Nat} (h : CB G ad) : isArr G (ad 59) 0 32 := cb_a h (by decide) rfl
theorem cA60 {G : aG} {ad : Nat → Nat} (h : CB G ad) : isArr G (ad 60) 0 32 := cb_a h (by decide) rfl
theorem cA61 {G : aG} {ad : Nat → Nat} (h : CB G ad) : isArr G (ad 61) 0 32 := cb_a h (by decide) rfl
theorem cA62 {G : aG} {ad : Nat → Nat} (h : CB G ad) : isArr G (ad 62) 5 6 := cb_a h (by decide) rfl
theorem cA63 {G : aG} {ad : Nat → Nat} (h : CB G ad) : isArr G (ad 63) 0 32 := cb_a h (by decide) rfl
theorem cA64 {G : aG} {ad : Nat → Nat} (h : CB G ad) : isArr G (ad 64) 0 32 := cb_a h (by decide) rfl
theorem cA65 {G : aG} {ad : Nat → Nat} (h : CB G ad) : isArr G (ad 65) 0 32 := cb_a h (by decide) rfl
theorem cA66 {G : aG} {ad : Nat → Nat} (h : CB G ad) : isArr G (ad 66) 0 32 := cb_a h (by decide) rfl
theorem cA67 {G : aG} {ad : Nat → Nat} (h : CB G ad) : isArr G (ad 67) 0 32 := cb_a h (by decide) rfl
theorem cA68 {G : aG} {ad : Nat → Nat} (h : CB G ad) : isArr G (ad 68) 0 32 := cb_a h (by decide) rfl
theorem cA69 {G : aG} {ad : Nat → Nat} (h : CB G ad) : isArr G (ad 69) 0 6 := cb_a h (by decide) rfl
theorem cA70 {G : aG} {ad : Nat → Nat} (h : CB G ad) : isArr G (ad 70) 0 7 := cb_a h (by decide) rfl
theorem cA71 {G : aG} {ad : Nat → Nat} (h : CB G ad) : isArr G (ad 71) 0 6 := cb_a h (by decide) rfl
theorem cA72 {G : aG} {ad : Nat → Nat} (h : CB G ad) : isArr G (ad 72) 1 1021 := cb_a h (by decide) rfl
theorem cA73 {G : aG} {ad : Nat → Nat} (h : CB G ad) : isArr G (ad 73) 0 6 := cb_a h (by decide) rfl
theorem cO74 {G : aG} {ad : Nat → Nat} (h : CB G ad) : isObj G (ad 74) 6 := cb_o h (by decide) rfl
theorem cA75 {G : aG} {ad : Nat → Nat} (h : CB G ad) : isArr G (ad 75) 0 6 := cb_a h (by decide) rfl
theorem cA76 {G : aG} {ad : Nat → Nat} (h : CB G ad) : isArr G (ad 76) 0 6 := cb_a h (by decide) rfl
theorem cA77 {G : aG} {ad : Nat → Nat} (h : CB G ad) : isArr G (ad 77) 0 6 := cb_a h (by decide) rfl
theorem cO78 {G : aG} {ad : Nat → Nat} (h : CB G ad) : isObj G (ad 78) 0 := cb_o h (by decide) rfl
theorem cA79 {G : aG} {ad : Nat → Nat} (h : CB G ad) : isArr G (ad 79) 0 6 := cb_a h (by decide) rfl
theorem cA80 {G : aG} {ad : Nat → Nat} (h : CB G ad) : isArr G (ad 80) 0 6 := cb_a h (by decide) rfl
theorem cA81 {G : aG} {ad : Nat → Nat} (h : CB G ad) : isArr G (ad 81) 0 6 := cb_a h (by decide) rfl
theorem cO82 {G : aG} {ad : Nat → Nat} (h : CB G ad) : isObj G (ad 82) 2 := cb_o h (by decide) rfl
theorem cR0_0 {G : aG} {ad : Nat → Nat} (h : CB G ad) : gR G (ad 0) 0 = some (ad 1) := cb_r h (by decide)
theorem cF0_0 {G : aG} {ad : Nat → Nat} (h : CB G ad) : rfA G (ad 0) 0 = ad 1 := cb_f h (by decide)
theorem cR0_1 {G : aG} {ad : Nat → Nat} (h : CB G ad) : gR G (ad 0) 1 = some (ad 3) := cb_r h (by decide)
theorem cF0_1 {G : aG} {ad : Nat → Nat} (h : CB G ad) : rfA G (ad 0) 1 = ad 3 := cb_f h (by decide)
theorem cR0_2 {G : aG} {ad : Nat → Nat} (h : CB G ad) : gR G (ad 0) 2 = some (ad 19) := cb_r h (by decide)
theorem cF0_2 {G : aG} {ad : Nat → Nat} (h : CB G ad) : rfA G (ad 0) 2 = ad 19 := cb_f h (by decide)
theorem cR0_3 {G : aG} {ad : Nat → Nat} (h : CB G ad) : gR G (ad 0) 3 = some (ad 21) := cb_r h (by decide)
theorem cF0_3 {G : aG} {ad : Nat → Nat} (h : CB G ad) : rfA G (ad 0) 3 = ad 21 := cb_f h (by decide)
theorem cR0_4 {G : aG} {ad : Nat → Nat} (h : CB G ad) : gR G (ad 0) 4 = some (ad 43) := cb_r h (by decide)
theorem cF0_4 {G : aG} {ad : Nat → Nat} (h : CB G ad) : rfA G (ad 0) 4 = ad 43 := cb_f h (by decide)
theorem cR0_6 {G : aG} {ad : Nat → Nat} (h : CB G ad) : gR G (ad 0) 6 = some (ad 48) := cb_r h (by decide)
theorem cF0_6 {G : aG} {ad : Nat → Nat} (h : CB G ad) : rfA G (ad 0) 6 = ad 48 := cb_f h (by decide)
theorem cR0_7 {G : aG} {ad : Nat → Nat} (h : CB G ad) : gR G (ad 0) 7 = some (ad 51) := cb_r h (by decide)
theorem cF0_7 {G : aG} {ad : Nat → Nat} (h : CB G ad) : rfA G (ad 0) 7 = ad 51 := cb_f h (by decide)
theorem cR0_8 {G : aG} {ad : Nat → Nat} (h : CB G ad) : gR G (ad 0) 8 = some (ad 74) := cb_r h (by decide)
theorem cF0_8 {G : aG} {ad : Nat → Nat} (h : CB G ad) : rfA G (ad 0) 8 = ad 74 := cb_f h (by decide)
theorem cR0_9 {G : aG} {ad : Nat → Nat} (h : CB G ad) : gR G (ad 0) 9 = some (ad 78) := cb_r h (by decide)
theorem cF0_9 {G : aG} {ad : Nat → Nat} (h : CB G ad) : rfA G (ad 0) 9 = ad 78 := cb_f h (by decide)
theorem cR0_10 {G : aG} {ad : Nat → Nat} (h : CB G ad) : gR G (ad 0) 10 = some (ad 82) := cb_r h (by decide)
theorem cF0_10 {G : aG} {ad : Nat → Nat} (h : CB G ad) : rfA G (ad 0) 10 = ad 82 := cb_f h (by decide)
theorem cR1_0 {G : aG} {ad : Nat → Nat} (h : CB G ad) : gR G (ad 1) 0 = some (ad 2) := cb_r h (by decide)
theorem cF1_0 {G : aG} {ad : Nat → Nat} (h : CB G ad) : rfA G (ad 1) 0 = ad 2 := cb_f h (by decide)
theorem cR1_2 {G : aG} {ad : Nat → Nat} (h : CB G ad) : gR G (ad 1) 2 = some (ad 11) := cb_r h (by decide)
theorem cF1_2 {G : aG} {ad : Nat → Nat} (h : CB G ad) : rfA G (ad 1) 2 = ad 11 := cb_f h (by decide)
theorem cR3_1 {G : aG} {ad : Nat → Nat} (h : CB G ad) : gR G (ad 3) 1 = some (ad 4) := cb_r h (by decide)
theorem cF3_1 {G : aG} {ad : Nat → Nat} (h : CB G ad) : rfA G (ad 3) 1 = ad 4 := cb_f h (by decide)
theorem cR3_2 {G : aG} {ad : Nat → Nat} (h : CB G ad) : gR G (ad 3) 2 = some (ad 5) := cb_r h (by decide)
theorem cF3_2 {G : aG} {ad : Nat → Nat} (h : CB G ad) : rfA G (ad 3) 2 = ad 5 := cb_f h (by decide)
theorem cR3_3 {G : aG} {ad : Nat → Nat} (h : CB G ad) : gR G (ad 3) 3 = some (ad 6) := cb_r h (by decide)
theorem cF3_3 {G : aG} {ad : Nat → Nat} (h : CB G ad) : rfA G (ad 3) 3 = ad 6 := cb_f h (by decide)
theorem cR3_5 {G : aG} {ad : Nat → Nat} (h : CB G ad) : gR G (ad 3) 5 = some (ad 7) := cb_r h (by decide)
theorem cF3_5 {G : aG} {ad : Nat → Nat} (h : CB G ad) : rfA G (ad 3) 5 = ad 7 := cb_f h (by decide)
theorem cR3_6 {G : aG} {ad : Nat → Nat} (h : CB G ad) : gR G (ad 3) 6 = some (ad 8) := cb_r h (by decide)
theorem cF3_6 {G : aG} {ad : Nat → Nat} (h : CB G ad) : rfA G (ad 3) 6 = ad 8 := cb_f h (by decide)
theorem cR3_7 {G : aG} {ad : Nat → Nat} (h : CB G ad) : gR G (ad 3) 7 = some (ad 9) := cb_r h (by decide)
theorem cF3_7 {G : aG} {ad : Nat → Nat} (h : CB G ad) : rfA G (ad 3) 7 = ad 9 := cb_f h (by decide)
theorem cR3_8 {G : aG} {ad : Nat → Nat} (h : CB G ad) : gR G (ad 3) 8 = some (ad 10) := cb_r h (by decide)
theorem cF3_8 {G : aG} {ad : Nat → Nat} (h : CB G ad) : rfA G (ad 3) 8 = ad 10 := cb_f h (by decide)
theorem cR11_1 {G : aG} {ad : Nat → Nat} (h : CB G ad) : gR G (ad 11) 1 = some (ad 12) := cb_r h (by decide)
theorem cF11_1 {G : aG} {ad : Nat → Nat} (h : CB G ad) : rfA G (ad 11) 1 = ad 12 := cb_f h (by decide)
theorem cR11_2 {G : aG} {ad : Nat → Nat} (h : CB G ad) : gR G (ad 11) 2 = some (ad 13) := cb_r h (by decide)
theorem cF11_2 {G : aG} {ad : Nat → Nat} (h : CB G ad) : rfA G (ad 11) 2 = ad 13 := cb_f h (by decide)
theorem cR11_3 {G : aG} {ad : Nat → Nat} (h : CB G ad) : gR G (ad 11) 3 = some (ad 14) := cb_r h (by decide)
theorem cF11_3 {G : aG} {ad : Nat → Nat} (h : CB G ad) : rfA G (ad 11) 3 = ad 14 := cb_f h (by decide)
theorem cR11_5 {G : aG} {ad : Nat → Nat} (h : CB G ad) : gR G (ad 11) 5 = some (ad 15) := cb_r h (by decide)
theorem cF11_5 {G : aG} {ad : Nat → Nat} (h : CB G ad) : rfA G (ad 11) 5 = ad 15 := cb_f h (by decide)
theorem cR11_6 {G : aG} {ad : Nat → Nat} (h : CB G ad) : gR G (ad 11) 6 = some (ad 16) := cb_r h (by decide)
theorem cF11_6 {G : aG} {ad : Nat → Nat} (h : CB G ad) : rfA G (ad 11) 6 = ad 16 := cb_f h (by decide)
theorem cR11_7 {G : aG} {ad : Nat → Nat} (h : CB G ad) : gR G (ad 11) 7 = some (ad 17) := cb_r h (by decide)
theorem cF11_7 {G : aG} {ad : Nat → Nat} (h : CB G ad) : rfA G (ad 11) 7 = ad 17 := cb_f h (by decide)
theorem cR11_8 {G : aG} {ad : Nat → Nat} (h : CB G ad) : gR G (ad 11) 8 = some (ad 18) := cb_r h (by decide)
theorem cF11_8 {G : aG} {ad : Nat → Nat} (h : CB G ad) : rfA G (ad 11) 8 = ad 18 := cb_f h (by decide)
theorem cR19_5 {G : aG} {ad : Nat → Nat} (h : CB G ad) : gR G (ad 19) 5 = some (ad 20) := cb_r h (by decide)
theorem cF19_5 {G : aG} {ad : Nat → Nat} (h : CB G ad) : rfA G (ad 19) 5 = ad 20 := cb_f h (by decide)
theorem cR21_0 {G : aG} {ad : Nat → Nat} (h : CB G ad) : gR G (ad 21) 0 = some (ad 22) := cb_r h (by decide)
theorem cF21_0 {G : aG} {ad : Nat → Nat} (h : CB G ad) : rfA G (ad 21) 0 = ad 22 := cb_f h (by decide)
theorem cR23_5 {G : aG} {ad : Nat → Nat} (h : CB G ad) : gR G (ad 23) 5 = some (ad 24) := cb_r h (by decide)
theorem cF23_5 {G : aG} {ad : Nat → Nat} (h : CB G ad) : rfA G (ad 23) 5 = ad 24 := cb_f h (by decide)
theorem cR22_0 {G : aG} {ad : Nat → Nat} (h : CB G ad) : gR G (ad 22) 0 = some (ad 23) := cb_r h (by decide)
theorem cF22_0 {G : aG} {ad : Nat → Nat} (h : CB G ad) : rfA G (ad 22) 0 = ad 23 := cb_f h (by decide)
theorem cR25_5 {G : aG} {ad : Nat → Nat} (h : CB G ad) : gR G (ad 25) 5 = some (ad 26) := cb_r h (by decide)
theorem cF25_5 {G : aG} {ad : Nat → Nat} (h : CB G ad) : rfA G (ad 25) 5 = ad 26 := cb_f h (by decide)
theorem cR22_1 {G : aG} {ad : Nat → Nat} (h : CB G ad) : gR G (ad 22) 1 = some (ad 25) := cb_r h (by decide)
theorem cF22_1 {G : aG} {ad : Nat → Nat} (h : CB G ad) : rfA G (ad 22) 1 = ad 25 := cb_f h (by decide)
theorem cR27_5 {G : aG} {ad : Nat → Nat} (h : CB G ad) : gR G (ad 27) 5 = some (ad 28) := cb_r h (by decide)
theorem cF27_5 {G : aG} {ad : Nat → Nat} (h : CB G ad) : rfA G (ad 27) 5 = ad 28 := cb_f h (by decide)
theorem cR22_2 {G : aG} {ad : Nat → Nat} (h : CB G ad) : gR G (ad 22) 2 = some (ad 27) := cb_r h (by decide)
theorem cF22_2 {G : aG} {ad : Nat → Nat} (h : CB G ad) : rfA G (ad 22) 2 = ad 27 := cb_f h (by decide)
theorem cR29_5 {G : aG} {ad : Nat → Nat} (h : CB G ad) : gR G (ad 29) 5 = some (ad 30) := cb_r h (by decide)
theorem cF29_5 {G : aG} {ad : Nat → Nat} (h : CB G ad) : rfA G (ad 29) 5 = ad 30 := cb_f h (by decide)
theorem cR22_3 {G : aG} {ad : Nat → Nat} (h : CB G ad) : gR G (ad 22) 3 = some (ad 29) := cb_r h (by decide)
theorem cF22_3 {G : aG} {ad : Nat → Nat} (h : CB G ad) : rfA G (ad 22) 3 = ad 29 := cb_f h (by decide)
theorem cR31_5 {G : aG} {ad : Nat → Nat} (h : CB G ad) : gR G (ad 31) 5 = some (ad 32) := cb_r h (by decide)
theorem cF31_5 {G : aG} {ad : Nat → Nat} (h : CB G ad) : rfA G (ad 31) 5 = ad 32 := cb_f h (by decide)
theorem cR22_4 {G : aG} {ad : Nat → Nat} (h : CB G ad) : gR G (ad 22) 4 = some (ad 31) := cb_r h (by decide)
theorem cF22_4 {G : aG} {ad : Nat → Nat} (h : CB G ad) : rfA G (ad 22) 4 = ad 31 := cb_f h (by decide)
theorem cR33_5 {G : aG} {ad : Nat → Nat} (h : CB G ad) : gR G (ad 33) 5 = some (ad 34) := cb_r h (by decide)
theorem cF33_5 {G : aG} {ad : Nat → Nat} (h : CB G ad) : rfA G (ad 33) 5 = ad 34 := cb_f h (by decide)
theorem cR22_5 {G : aG} {ad : Nat → Nat} (h : CB G ad) : gR G (ad 22) 5 = some (ad 33) := cb_r h (by decide)
theorem cF22_5 {G : aG} {ad : Nat → Nat} (h : CB G ad) : rfA G (ad 22) 5 = ad 33 := cb_f h (by decide)
theorem cR35_5 {G : aG} {ad : Nat → Nat} (h : CB G ad) : gR G (ad 35) 5 = some (ad 36) := cb_r h (by decide)
theorem cF35_5 {G : aG} {ad : Nat → Nat} (h : CB G ad) : rfA G (ad 35) 5 = ad 36 := cb_f h (by decide)
theorem cR22_6 {G : aG} {ad : Nat → Nat} (h : CB G ad) : gR G (ad 22) 6 = some (ad 35) := cb_r h (by decide)
theorem cF22_6 {G : aG} {ad : Nat → Nat} (h : CB G ad) : rfA G (ad 22) 6 = ad 35 := cb_f h (by decide)
theorem cR37_5 {G : aG} {ad : Nat → Nat} (h : CB G ad) : gR G (ad 37) 5 = some (ad 38) := cb_r h (by decide)
theorem cF37_5 {G : aG} {ad : Nat → Nat} (h : CB G ad) : rfA G (ad 37) 5 = ad 38 := cb_f h (by decide)
theorem cR22_7 {G : aG} {ad : Nat → Nat} (h : CB G ad) : gR G (ad 22) 7 = some (ad 37) := cb_r h (by decide)
theorem cF22_7 {G : aG} {ad : Nat → Nat} (h : CB G ad) : rfA G (ad 22) 7 = ad 37 := cb_f h (by decide)
theorem cR39_5 {G : aG} {ad : Nat → Nat} (h : CB G ad) : gR G (ad 39) 5 = some (ad 40) := cb_r h (by decide)
theorem cF39_5 {G : aG} {ad : Nat → Nat} (h : CB G ad) : rfA G (ad 39) 5 = ad 40 := cb_f h (by decide)
theorem cR22_8 {G : aG} {ad : Nat → Nat} (h : CB G ad) : gR G (ad 22) 8 = some (ad 39) := cb_r h (by decide)
theorem cF22_8 {G : aG} {ad : Nat → Nat} (h : CB G ad) : rfA G (ad 22) 8 = ad 39 := cb_f h (by decide)
theorem cR41_5 {G : aG} {ad : Nat → Nat} (h : CB G ad) : gR G (ad 41) 5 = some (ad 42) := cb_r h (by decide)
theorem cF41_5 {G : aG} {ad : Nat → Nat} (h : CB G ad) : rfA G (ad 41) 5 = ad 42 := cb_f h (by decide)
theorem cR22_9 {G : aG} {ad : Nat → Nat} (h : CB G ad) : gR G (ad 22) 9 = some (ad 41) := cb_r h (by decide)
theorem cF22_9 {G : aG} {ad : Nat → Nat} (h : CB G ad) : rfA G (ad 22) 9 = ad 41 := cb_f h (by decide)
theorem cR44_5 {G : aG} {ad : Nat → Nat} (h : CB G ad) : gR G (ad 44) 5 = some (ad 45) := cb_r h (by decide)
theorem cF44_5 {G : aG} {ad : Nat → Nat} (h : CB G ad) : rfA G (ad 44) 5 = ad 45 := cb_f h (by decide)
theorem cR43_0 {G : aG} {ad : Nat → Nat} (h : CB G ad) : gR G (ad 43) 0 = some (ad 44) := cb_r h (by decide)
theorem cF43_0 {G : aG} {ad : Nat → Nat} (h : CB G ad) : rfA G (ad 43) 0 = ad 44 := cb_f h (by decide)
theorem cR46_5 {G : aG} {ad : Nat → Nat} (h : CB G ad) : gR G (ad 46) 5 = some (ad 47) := cb_r h (by decide)
theorem cF46_5 {G : aG} {ad : Nat → Nat} (h : CB G ad) : rfA G (ad 46) 5 = ad 47 := cb_f h (by decide)
theorem cR43_1 {G : aG} {ad : Nat → Nat} (h : CB G ad) : gR G (ad 43) 1 = some (ad 46) := cb_r h (by decide)
theorem cF43_1 {G : aG} {ad : Nat → Nat} (h : CB G ad) : rfA G (ad 43) 1 = ad 46 := cb_f h (by decide)
theorem cR49_5 {G : aG} {ad : Nat → Nat} (h : CB G ad) : gR G (ad 49) 5 = some (ad 50) := cb_r h (by decide)
theorem cF49_5 {G : aG} {ad : Nat → Nat} (h : CB G ad) : rfA G (ad 49) 5 = ad 50 := cb_f h (by decide)
theorem cR48_0 {G : aG} {ad : Nat → Nat} (h : CB G ad) : gR G (ad 48) 0 = some (ad 49) := cb_r h (by decide)
theorem cF48_0 {G : aG} {ad : Nat → Nat} (h : CB G ad) : rfA G (ad 48) 0 = ad 49 := cb_f h (by decide)
theorem cR52_5 {G : aG} {ad : Nat → Nat} (h : CB G ad) : gR G (ad 52) 5 = some (ad 53) := cb_r h (by decide)
theorem cF52_5 {G : aG} {ad : Nat → Nat} (h : CB G ad) : rfA G (ad 52) 5 = ad 53 := cb_f h (by decide)
theorem cR51_0 {G : aG} {ad : Nat → Nat} (h : CB G ad) : gR G (ad 51) 0 = some (ad 52) := cb_r h (by decide)
theorem cF51_0 {G : aG} {ad : Nat → Nat} (h : CB G ad) : rfA G (ad 51) 0 = ad 52 := cb_f h (by decide)
theorem cR51_1 {G : aG} {ad : Nat → Nat} (h : CB G ad) : gR G (ad 51) 1 = some (ad 54) := cb_r h (by decide)
theorem cF51_1 {G : aG} {ad : Nat → Nat} (h : CB G ad) : rfA G (ad 51) 1 = ad 54 := cb_f h (by decide)
theorem cR51_2 {G : aG} {ad : Nat → Nat} (h : CB G ad) : gR G (ad 51) 2 = some (ad 55) := cb_r h (by decide)
theorem cF51_2 {G : aG} {ad : Nat → Nat} (h : CB G ad) : rfA G (ad 51) 2 = ad 55 := cb_f h (by decide)
theorem cR55_0 {G : aG} {ad : Nat → Nat} (h : CB G ad) : gR G (ad 55) 0 = some (ad 56) := cb_r h (by decide)
theorem cF55_0 {G : aG} {ad : Nat → Nat} (h : CB G ad) : rfA G (ad 55) 0 = ad 56 := cb_f h (by decide)
theorem cR55_1 {G : aG} {ad : Nat → Nat} (h : CB G ad) : gR G (ad 55) 1 = some (ad 57) := cb_r h (by decide)
theorem cF55_1 {G : aG} {ad : Nat → Nat} (h : CB G ad) : rfA G (ad 55) 1 = ad 57 := cb_f h (by decide)
theorem cR55_2 {G : aG} {ad : Nat → Nat} (h : CB G ad) : gR G (ad 55) 2 = some (ad 58) := cb_r h (by decide)
theorem cF55_2 {G : aG} {ad : Nat → Nat} (h : CB G ad) : rfA G (ad 55) 2 = ad 58 := cb_f h (by decide)
theorem cR55_3 {G : aG} {ad : Nat → Nat} (h : CB G ad) : gR G (ad 55) 3 = some (ad 59) := cb_r h (by decide)
theorem cF55_3 {G : aG} {ad : Nat → Nat} (h : CB G ad) : rfA G (ad 55) 3 = ad 59 := cb_f h (by decide)
theorem cR55_4 {G : aG} {ad : Nat → Nat} (h : CB G ad) : gR G (ad 55) 4 = some (ad 60) := cb_r h (by decide)
theorem cF55_4 {G : aG} {ad : Nat → Nat} (h : CB G ad) : rfA G (ad 55) 4 = ad 60 := cb_f h (by decide)
theorem cR55_5 {G : aG} {ad : Nat → Nat} (h : CB G ad) : gR G (ad 55) 5 = some (ad 61) := cb_r h (by decide)
theorem cF55_5 {G : aG} {ad : Nat → Nat} (h : CB G ad) : rfA G (ad 55) 5 = ad 61 := cb_f h (by decide)
theorem cR51_3 {G : aG} {ad : Nat → Nat} (h : CB G ad) : gR G (ad 51) 3 = some (ad 62) := cb_r h (by decide)
theorem cF51_3 {G : aG} {ad : Nat → Nat} (h : CB G ad) : rfA G (ad 51) 3 = ad 62 := cb_f h (by decide)
theorem cR62_0 {G : aG} {ad : Nat → Nat} (h : CB G ad) : gR G (ad 62) 0 = some (ad 63) := cb_r h (by decide)
theorem cF62_0 {G : aG} {ad : Nat → Nat} (h : CB G ad) : rfA G (ad 62) 0 = ad 63 := cb_f h (by decide)
theorem cR62_1 {G : aG} {ad : Nat → Nat} (h : CB G ad) : gR G (ad 62) 1 = some (ad 64) := cb_r h (by decide)
theorem cF62_1 {G : aG} {ad : Nat → Nat} (h : CB G ad) : rfA G (ad 62) 1 = ad 64 := cb_f h (by decide)
theorem cR62_2 {G : aG} {ad : Nat → Nat} (h : CB G ad) : gR G (ad 62) 2 = some (ad 65) := cb_r h (by decide)
theorem cF62_2 {G : aG} {ad : Nat → Nat} (h : CB G ad) : rfA G (ad 62) 2 = ad 65 := cb_f h (by decide)
theorem cR62_3 {G : aG} {ad : Nat → Nat} (h : CB G ad) : gR G (ad 62) 3 = some (ad 66) := cb_r h (by decide)
theorem cF62_3 {G : aG} {ad : Nat → Nat} (h : CB G ad) : rfA G (ad 62) 3 = ad 66 := cb_f h (by decide)
theorem cR62_4 {G : aG} {ad : Nat → Nat} (h : CB G ad) : gR G (ad 62) 4 = some (ad 67) := cb_r h (by decide)
theorem cF62_4 {G : aG} {ad : Nat → Nat} (h : CB G ad) : rfA G (ad 62) 4 = ad 67 := cb_f h (by decide)
theorem cR62_5 {G : aG} {ad : Nat → Nat} (h : CB G ad) : gR G (ad 62) 5 = some (ad 68) := cb_r h (by decide)
theorem cF62_5 {G : aG} {ad : Nat → Nat} (h : CB G ad) : rfA G (ad 62) 5 = ad 68 := cb_f h (by decide)
theorem cR51_4 {G : aG} {ad : Nat → Nat} (h : CB G ad) : gR G (ad 51) 4 = some (ad 69) := cb_r h (by decide)
theorem cF51_4 {G : aG} {ad : Nat → Nat} (h : CB G ad) : rfA G (ad 51) 4 = ad 69 := cb_f h (by decide)
theorem cR51_5 {G : aG} {ad : Nat → Nat} (h : CB G ad) : gR G (ad 51) 5 = some (ad 70) := cb_r h (by decide)
theorem cF51_5 {G : aG} {ad : Nat → Nat} (h : CB G ad) : rfA G (ad 51) 5 = ad 70 := cb_f h (by decide)
theorem cR51_6 {G : aG} {ad : Nat → Nat} (h : CB G ad) : gR G (ad 51) 6 = some (ad 71) := cb_r h (by decide)
theorem cF51_6 {G : aG} {ad : Nat → Nat} (h : CB G ad) : rfA G (ad 51) 6 = ad 71 := cb_f h (by decide)
theorem cR51_7 {G : aG} {ad : Nat → Nat} (h : CB G ad) : gR G (ad 51) 7 = some (ad 72) := cb_r h (by decide)
theorem cF51_7 {G : aG} {ad : Nat → Nat} (h : CB G ad) : rfA G (ad 51) 7 = ad 72 := cb_f h (by decide)
theorem cR51_11 {G : aG} {ad : Nat → Nat} (h : CB G ad) : gR G (ad 51) 11 = some (ad 73) := cb_r h (by decide)
theorem cF51_11 {G : aG} {ad : Nat → Nat} (h : CB G ad) : rfA G (ad 51) 11 = ad 73 := cb_f h (by decide)
theorem cR74_0 {G : aG} {ad : Nat → Nat} (h : CB G ad) : gR G (ad 74) 0 = some (ad 75) := cb_r h (by decide)
theorem cF74_0 {G : aG} {ad : Nat → Nat} (h : CB G ad) : rfA G (ad 74) 0 = ad 75 := cb_f h (by decide)
theorem cR74_1 {G : aG} {ad : Nat → Nat} (h : CB G ad) : gR G (ad 74) 1 = some (ad 76) := cb_r h (by decide)
theorem cF74_1 {G : aG} {ad : Nat → Nat} (h : CB G ad) : rfA G (ad 74) 1 = ad 76 := cb_f h (by decide)
theorem cR74_4 {G : aG} {ad : Nat → Nat} (h : CB G ad) : gR G (ad 74) 4 = some (ad 77) := cb_r h (by decide)
theorem cF74_4 {G : aG} {ad : Nat → Nat} (h : CB G ad) : rfA G (ad 74) 4 = ad 77 := cb_f h (by decide)
theorem cR78_0 {G : aG} {ad : Nat → Nat} (h : CB G ad) : gR G (ad 78) 0 = some (ad 79) := cb_r h (by decide)
theorem cF78_0 {G : aG} {ad : Nat → Nat} (h : CB G ad) : rfA G (ad 78) 0 = ad 79 := cb_f h (by decide)
theorem cR78_1 {G : aG} {ad : Nat → Nat} (h : CB G ad) : gR G (ad 78) 1 = some (ad 80) := cb_r h (by decide)
theorem cF78_1 {G : aG} {ad : Nat → Nat} (h : CB G ad) : rfA G (ad 78) 1 = ad 80 := cb_f h (by decide)
theorem cR78_2 {G : aG} {ad : Nat → Nat} (h : CB G ad) : gR G (ad 78) 2 = some (ad 81) := cb_r h (by decide)
theorem cF78_2 {G : aG} {ad : Nat → Nat} (h : CB G ad) : rfA G (ad 78) 2 = ad 81 := cb_f h (by decide)
