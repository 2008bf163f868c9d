/-! ADDRESSES -/
theorem ok0 : vh_okk 0 10 = true := by decide
theorem ok1 : vh_okk 1 8 = true := by decide
theorem ok2 : vh_okk 2 20 = true := by decide
theorem kd2 : (vh_kd 2).2 = 8 := by decide
theorem ok3 : vh_okk 3 20 = true := by decide
theorem kd3 : (vh_kd 3).2 = 8 := by decide
theorem ok4 : vh_okk 4 20 = true := by decide
theorem kd4 : (vh_kd 4).2 = 480 := by decide
theorem ok5 : vh_okk 5 23 = true := by decide
theorem kd5 : (vh_kd 5).2 = 4 := by decide
theorem ok6 : vh_okk 6 4 = true := by decide
theorem ok7 : vh_okk 7 20 = true := by decide
theorem kd7 : (vh_kd 7).2 = 2 := by decide
theorem ok8 : vh_okk 8 20 = true := by decide
theorem kd8 : (vh_kd 8).2 = 5 := by decide
theorem ok9 : vh_okk 9 20 = true := by decide
theorem kd9 : (vh_kd 9).2 = 5 := by decide
theorem ok10 : vh_okk 10 4 = true := by decide
theorem ok11 : vh_okk 11 20 = true := by decide
theorem kd11 : (vh_kd 11).2 = 2 := by decide
theorem ok12 : vh_okk 12 20 = true := by decide
theorem kd12 : (vh_kd 12).2 = 5 := by decide
theorem ok13 : vh_okk 13 20 = true := by decide
theorem kd13 : (vh_kd 13).2 = 5 := by decide
theorem ok14 : vh_okk 14 4 = true := by decide
theorem ok15 : vh_okk 15 20 = true := by decide
theorem kd15 : (vh_kd 15).2 = 2 := by decide
theorem ok16 : vh_okk 16 20 = true := by decide
theorem kd16 : (vh_kd 16).2 = 5 := by decide
theorem ok17 : vh_okk 17 20 = true := by decide
theorem kd17 : (vh_kd 17).2 = 5 := by decide
theorem ok18 : vh_okk 18 4 = true := by decide
theorem ok19 : vh_okk 19 20 = true := by decide
theorem kd19 : (vh_kd 19).2 = 2 := by decide
theorem ok20 : vh_okk 20 20 = true := by decide
theorem kd20 : (vh_kd 20).2 = 5 := by decide
theorem ok21 : vh_okk 21 20 = true := by decide
theorem kd21 : (vh_kd 21).2 = 5 := by decide
theorem ok22 : vh_okk 22 9 = true := by decide
theorem ok23 : vh_okk 23 20 = true := by decide
theorem kd23 : (vh_kd 23).2 = 400 := by decide
theorem ok24 : vh_okk 24 7 = true := by decide
theorem ok25 : vh_okk 25 23 = true := by decide
theorem kd25 : (vh_kd 25).2 = 4 := by decide
theorem ok26 : vh_okk 26 4 = true := by decide
theorem ok27 : vh_okk 27 20 = true := by decide
theorem kd27 : (vh_kd 27).2 = 2 := by decide
theorem ok28 : vh_okk 28 20 = true := by decide
theorem kd28 : (vh_kd 28).2 = 5 := by decide
theorem ok29 : vh_okk 29 20 = true := by decide
theorem kd29 : (vh_kd 29).2 = 5 := by decide
theorem ok30 : vh_okk 30 4 = true := by decide
theorem ok31 : vh_okk 31 20 = true := by decide
theorem kd31 : (vh_kd 31).2 = 2 := by decide
theorem ok32 : vh_okk 32 20 = true := by decide
theorem kd32 : (vh_kd 32).2 = 5 := by decide
theorem ok33 : vh_okk 33 20 = true := by decide
theorem kd33 : (vh_kd 33).2 = 5 := by decide
theorem ok34 : vh_okk 34 4 = true := by decide
theorem ok35 : vh_okk 35 20 = true := by decide
theorem kd35 : (vh_kd 35).2 = 2 := by decide
theorem ok36 : vh_okk 36 20 = true := by decide
theorem kd36 : (vh_kd 36).2 = 5 := by decide
theorem ok37 : vh_okk 37 20 = true := by decide
theorem kd37 : (vh_kd 37).2 = 5 := by decide
theorem ok38 : vh_okk 38 4 = true := by decide
theorem ok39 : vh_okk 39 20 = true := by decide
theorem kd39 : (vh_kd 39).2 = 2 := by decide
theorem ok40 : vh_okk 40 20 = true := by decide
theorem kd40 : (vh_kd 40).2 = 5 := by decide
theorem ok41 : vh_okk 41 20 = true := by decide
theorem kd41 : (vh_kd 41).2 = 5 := by decide
theorem ok42 : vh_okk 42 2 = true := by decide
theorem ok43 : vh_okk 43 24 = true := by decide
theorem kd43 : (vh_kd 43).2 = 16 := by decide
theorem ok44 : vh_okk 44 20 = true := by decide
theorem kd44 : (vh_kd 44).2 = 16 := by decide
theorem ok45 : vh_okk 45 20 = true := by decide
theorem kd45 : (vh_kd 45).2 = 16 := by decide
theorem ok46 : vh_okk 46 22 = true := by decide
theorem kd46 : (vh_kd 46).2 = 16 := by decide
theorem ok47 : vh_okk 47 1 = true := by decide
theorem ok48 : vh_okk 48 1 = true := by decide
theorem ok49 : vh_okk 49 1 = true := by decide
theorem ok50 : vh_okk 50 1 = true := by decide
theorem ok51 : vh_okk 51 1 = true := by decide
theorem ok52 : vh_okk 52 1 = true := by decide
theorem ok53 : vh_okk 53 1 = true := by decide
theorem ok54 : vh_okk 54 1 = true := by decide
theorem ok55 : vh_okk 55 1 = true := by decide
theorem ok56 : vh_okk 56 1 = true := by decide
theorem ok57 : vh_okk 57 1 = true := by decide
theorem ok58 : vh_okk 58 1 = true := by decide
theorem ok59 : vh_okk 59 1 = true := by decide
theorem ok60 : vh_okk 60 1 = true := by decide
theorem ok61 : vh_okk 61 1 = true := by decide
theorem ok62 : vh_okk 62 1 = true := by decide
theorem ok63 : vh_okk 63 3 = true := by decide
theorem ok64 : vh_okk 64 1 = true := by decide
theorem ok65 : vh_okk 65 1 = true := by decide
theorem ok66 : vh_okk 66 20 = true := by decide
theorem kd66 : (vh_kd 66).2 = 16 := by decide
theorem ok67 : vh_okk 67 5 = true := by decide
theorem ok68 : vh_okk 68 20 = true := by decide
theorem kd68 : (vh_kd 68).2 = 40 := by decide
theorem ok69 : vh_okk 69 20 = true := by decide
theorem kd69 : (vh_kd 69).2 = 40 := by decide
theorem ok70 : vh_okk 70 20 = true := by decide
theorem kd70 : (vh_kd 70).2 = 40 := by decide
theorem ok71 : vh_okk 71 20 = true := by decide
theorem kd71 : (vh_kd 71).2 = 40 := by decide
theorem ok72 : vh_okk 72 5 = true := by decide
theorem ok73 : vh_okk 73 20 = true := by decide
theorem kd73 : (vh_kd 73).2 = 40 := by decide
theorem ok74 : vh_okk 74 20 = true := by decide
theorem kd74 : (vh_kd 74).2 = 40 := by decide
theorem ok75 : vh_okk 75 20 = true := by decide
theorem kd75 : (vh_kd 75).2 = 40 := by decide
theorem ok76 : vh_okk 76 20 = true := by decide
theorem kd76 : (vh_kd 76).2 = 40 := by decide
theorem ok77 : vh_okk 77 5 = true := by decide
theorem ok78 : vh_okk 78 20 = true := by decide
theorem kd78 : (vh_kd 78).2 = 40 := by decide
theorem ok79 : vh_okk 79 20 = true := by decide
theorem kd79 : (vh_kd 79).2 = 40 := by decide
theorem ok80 : vh_okk 80 20 = true := by decide
theorem kd80 : (vh_kd 80).2 = 40 := by decide
theorem ok81 : vh_okk 81 20 = true := by decide
theorem kd81 : (vh_kd 81).2 = 40 := by decide
theorem ok82 : vh_okk 82 6 = true := by decide
theorem ok83 : vh_okk 83 21 = true := by decide
theorem kd83 : (vh_kd 83).2 = 10 := by decide
theorem ok84 : vh_okk 84 21 = true := by decide
theorem kd84 : (vh_kd 84).2 = 10 := by decide
theorem ok85 : vh_okk 85 20 = true := by decide
theorem kd85 : (vh_kd 85).2 = 10 := by decide
theorem ok86 : vh_okk 86 0 = true := by decide
theorem ok87 : vh_okk 87 20 = true := by decide
theorem kd87 : (vh_kd 87).2 = 16 := by decide
theorem ok88 : vh_okk 88 11 = true := by decide
theorem ok89 : vh_okk 89 20 = true := by decide
theorem kd89 : (vh_kd 89).2 = 4 := by decide
theorem ok90 : vh_okk 90 20 = true := by decide
theorem kd90 : (vh_kd 90).2 = 4 := by decide
theorem ok91 : vh_okk 91 20 = true := by decide
theorem kd91 : (vh_kd 91).2 = 4 := by decide
theorem ok92 : vh_okk 92 20 = true := by decide
theorem kd92 : (vh_kd 92).2 = 4 := by decide
theorem ok93 : vh_okk 93 20 = true := by decide
theorem kd93 : (vh_kd 93).2 = 8 := by decide
theorem ok94 : vh_okk 94 20 = true := by decide
theorem kd94 : (vh_kd 94).2 = 20 := by decide
theorem ok95 : vh_okk 95 20 = true := by decide
theorem kd95 : (vh_kd 95).2 = 20 := by decide
theorem ok96 : vh_okk 96 20 = true := by decide
theorem kd96 : (vh_kd 96).2 = 8 := by decide
theorem ok97 : vh_okk 97 20 = true := by decide
theorem kd97 : (vh_kd 97).2 = 8 := by decide
theorem ok98 : vh_okk 98 20 = true := by decide
theorem kd98 : (vh_kd 98).2 = 480 := by decide
theorem ok99 : vh_okk 99 20 = true := by decide
theorem kd99 : (vh_kd 99).2 = 400 := by decide
theorem ok100 : vh_okk 100 20 = true := by decide
theorem kd100 : (vh_kd 100).2 = 144 := by decide
theorem ok101 : vh_okk 101 20 = true := by decide
theorem kd101 : (vh_kd 101).2 = 16 := by decide
theorem ok102 : vh_okk 102 21 = true := by decide
theorem kd102 : (vh_kd 102).2 = 65536 := by decide
theorem ok103 : vh_okk 103 20 = true := by decide
theorem kd103 : (vh_kd 103).2 = 65536 := by decide
theorem ok104 : vh_okk 104 20 = true := by decide
theorem kd104 : (vh_kd 104).2 = 16 := by decide
theorem ok105 : vh_okk 105 20 = true := by decide
theorem kd105 : (vh_kd 105).2 = 16 := by decide
theorem ok106 : vh_okk 106 20 = true := by decide
theorem kd106 : (vh_kd 106).2 = 40 := by decide
theorem ok107 : vh_okk 107 20 = true := by decide
theorem kd107 : (vh_kd 107).2 = 40 := by decide
theorem ok108 : vh_okk 108 20 = true := by decide
theorem kd108 : (vh_kd 108).2 = 40 := by decide
theorem ok109 : vh_okk 109 20 = true := by decide
theorem kd109 : (vh_kd 109).2 = 40 := by decide
theorem ok110 : vh_okk 110 20 = true := by decide
theorem kd110 : (vh_kd 110).2 = 40 := by decide
theorem ok111 : vh_okk 111 20 = true := by decide
theorem kd111 : (vh_kd 111).2 = 40 := by decide
theorem ok112 : vh_okk 112 20 = true := by decide
theorem kd112 : (vh_kd 112).2 = 40 := by decide
theorem ok113 : vh_okk 113 20 = true := by decide
theorem kd113 : (vh_kd 113).2 = 40 := by decide
theorem ok114 : vh_okk 114 20 = true := by decide
theorem kd114 : (vh_kd 114).2 = 40 := by decide
theorem ok115 : vh_okk 115 20 = true := by decide
theorem kd115 : (vh_kd 115).2 = 40 := by decide
theorem ok116 : vh_okk 116 20 = true := by decide
theorem kd116 : (vh_kd 116).2 = 10 := by decide
theorem ok117 : vh_okk 117 20 = true := by decide
theorem kd117 : (vh_kd 117).2 = 10 := by decide
theorem ok118 : vh_okk 118 20 = true := by decide
theorem kd118 : (vh_kd 118).2 = 10 := by decide
theorem ok119 : vh_okk 119 20 = true := by decide
theorem kd119 : (vh_kd 119).2 = 10 := by decide
theorem ok120 : vh_okk 120 20 = true := by decide
theorem kd120 : (vh_kd 120).2 = 10 := by decide
theorem ok121 : vh_okk 121 20 = true := by decide
theorem kd121 : (vh_kd 121).2 = 16 := by decide
theorem rf0_0 {d : Nat} : va_rf (vh_RR d 0 0) = .ref 1 := rfl
theorem rf0_1 {d : Nat} : va_rf (vh_RR d 0 1) = .ref 5 := rfl
theorem rf0_2 {d : Nat} : va_rf (vh_RR d 0 2) = .ref 22 := rfl
theorem rf0_3 {d : Nat} : va_rf (vh_RR d 0 3) = .ref 24 := rfl
theorem rf0_4 {d : Nat} : va_rf (vh_RR d 0 4) = .ref 42 := rfl
theorem rf0_5 {d : Nat} : va_rf (vh_RR d 0 5) = .ref 63 := rfl
theorem rf0_6 {d : Nat} : va_rf (vh_RR d 0 6) = .ref 67 := rfl
theorem rf0_7 {d : Nat} : va_rf (vh_RR d 0 7) = .ref 72 := rfl
theorem rf0_8 {d : Nat} : va_rf (vh_RR d 0 8) = .ref 77 := rfl
theorem rf0_9 {d : Nat} : va_rf (vh_RR d 0 9) = .ref 82 := rfl
theorem rf0_10 {d : Nat} : va_rf (vh_RR d 0 10) = .ref 86 := rfl
theorem rf1_0 {d : Nat} : va_rf (vh_RR d 1 0) = .ref 2 := rfl
theorem rf1_1 {d : Nat} : va_rf (vh_RR d 1 1) = .ref 3 := rfl
theorem rf1_2 {d : Nat} : va_rf (vh_RR d 1 2) = .ref 4 := rfl
theorem rf6_4 {d : Nat} : va_rf (vh_RR d 6 4) = .ref 7 := rfl
theorem rf6_5 {d : Nat} : va_rf (vh_RR d 6 5) = .ref 8 := rfl
theorem rf6_6 {d : Nat} : va_rf (vh_RR d 6 6) = .ref 9 := rfl
theorem rf10_4 {d : Nat} : va_rf (vh_RR d 10 4) = .ref 11 := rfl
theorem rf10_5 {d : Nat} : va_rf (vh_RR d 10 5) = .ref 12 := rfl
theorem rf10_6 {d : Nat} : va_rf (vh_RR d 10 6) = .ref 13 := rfl
theorem rf14_4 {d : Nat} : va_rf (vh_RR d 14 4) = .ref 15 := rfl
theorem rf14_5 {d : Nat} : va_rf (vh_RR d 14 5) = .ref 16 := rfl
theorem rf14_6 {d : Nat} : va_rf (vh_RR d 14 6) = .ref 17 := rfl
theorem rf18_4 {d : Nat} : va_rf (vh_RR d 18 4) = .ref 19 := rfl
theorem rf18_5 {d : Nat} : va_rf (vh_RR d 18 5) = .ref 20 := rfl
theorem rf18_6 {d : Nat} : va_rf (vh_RR d 18 6) = .ref 21 := rfl
theorem rf22_0 {d : Nat} : va_rf (vh_RR d 22 0) = .ref 23 := rfl
theorem rf24_0 {d : Nat} : va_rf (vh_RR d 24 0) = .ref 22 := rfl
theorem rf24_1 {d : Nat} : va_rf (vh_RR d 24 1) = .ref 5 := rfl
theorem rf24_2 {d : Nat} : va_rf (vh_RR d 24 2) = .ref 25 := rfl
theorem rf26_4 {d : Nat} : va_rf (vh_RR d 26 4) = .ref 27 := rfl
theorem rf26_5 {d : Nat} : va_rf (vh_RR d 26 5) = .ref 28 := rfl
theorem rf26_6 {d : Nat} : va_rf (vh_RR d 26 6) = .ref 29 := rfl
theorem rf30_4 {d : Nat} : va_rf (vh_RR d 30 4) = .ref 31 := rfl
theorem rf30_5 {d : Nat} : va_rf (vh_RR d 30 5) = .ref 32 := rfl
theorem rf30_6 {d : Nat} : va_rf (vh_RR d 30 6) = .ref 33 := rfl
theorem rf34_4 {d : Nat} : va_rf (vh_RR d 34 4) = .ref 35 := rfl
theorem rf34_5 {d : Nat} : va_rf (vh_RR d 34 5) = .ref 36 := rfl
theorem rf34_6 {d : Nat} : va_rf (vh_RR d 34 6) = .ref 37 := rfl
theorem rf38_4 {d : Nat} : va_rf (vh_RR d 38 4) = .ref 39 := rfl
theorem rf38_5 {d : Nat} : va_rf (vh_RR d 38 5) = .ref 40 := rfl
theorem rf38_6 {d : Nat} : va_rf (vh_RR d 38 6) = .ref 41 := rfl
theorem rf42_0 {d : Nat} : va_rf (vh_RR d 42 0) = .ref 5 := rfl
theorem rf42_1 {d : Nat} : va_rf (vh_RR d 42 1) = .ref 43 := rfl
theorem rf42_2 {d : Nat} : va_rf (vh_RR d 42 2) = .ref 44 := rfl
theorem rf42_3 {d : Nat} : va_rf (vh_RR d 42 3) = .ref 45 := rfl
theorem rf42_4 {d : Nat} : va_rf (vh_RR d 42 4) = .ref 46 := rfl
theorem rf63_0 {d : Nat} : va_rf (vh_RR d 63 0) = .ref 42 := rfl
theorem rf63_1 {d : Nat} : va_rf (vh_RR d 63 1) = .ref 5 := rfl
theorem rf63_2 {d : Nat} : va_rf (vh_RR d 63 2) = .ref 64 := rfl
theorem rf63_3 {d : Nat} : va_rf (vh_RR d 63 3) = .ref 65 := rfl
theorem rf63_4 {d : Nat} : va_rf (vh_RR d 63 4) = .ref 66 := rfl
theorem rf67_0 {d : Nat} : va_rf (vh_RR d 67 0) = .ref 68 := rfl
theorem rf67_1 {d : Nat} : va_rf (vh_RR d 67 1) = .ref 69 := rfl
theorem rf67_2 {d : Nat} : va_rf (vh_RR d 67 2) = .ref 70 := rfl
theorem rf67_3 {d : Nat} : va_rf (vh_RR d 67 3) = .ref 71 := rfl
theorem rf72_0 {d : Nat} : va_rf (vh_RR d 72 0) = .ref 73 := rfl
theorem rf72_1 {d : Nat} : va_rf (vh_RR d 72 1) = .ref 74 := rfl
theorem rf72_2 {d : Nat} : va_rf (vh_RR d 72 2) = .ref 75 := rfl
theorem rf72_3 {d : Nat} : va_rf (vh_RR d 72 3) = .ref 76 := rfl
theorem rf77_0 {d : Nat} : va_rf (vh_RR d 77 0) = .ref 78 := rfl
theorem rf77_1 {d : Nat} : va_rf (vh_RR d 77 1) = .ref 79 := rfl
theorem rf77_2 {d : Nat} : va_rf (vh_RR d 77 2) = .ref 80 := rfl
theorem rf77_3 {d : Nat} : va_rf (vh_RR d 77 3) = .ref 81 := rfl
theorem rf82_0 {d : Nat} : va_rf (vh_RR d 82 0) = .ref 83 := rfl
theorem rf82_1 {d : Nat} : va_rf (vh_RR d 82 1) = .ref 84 := rfl
theorem rf82_2 {d : Nat} : va_rf (vh_RR d 82 2) = .ref 85 := rfl
theorem rf86_0 {d : Nat} : va_rf (vh_RR d 86 0) = .ref 87 := rfl
theorem rf88_2 {d : Nat} : va_rf (vh_RR d 88 2) = .ref 89 := rfl
theorem rf88_3 {d : Nat} : va_rf (vh_RR d 88 3) = .ref 90 := rfl
theorem rf88_4 {d : Nat} : va_rf (vh_RR d 88 4) = .ref 91 := rfl
theorem rf88_5 {d : Nat} : va_rf (vh_RR d 88 5) = .ref 92 := rfl
theorem rf88_6 {d : Nat} : va_rf (vh_RR d 88 6) = .ref 93 := rfl
theorem rf88_7 {d : Nat} : va_rf (vh_RR d 88 7) = .ref 94 := rfl
theorem rf88_8 {d : Nat} : va_rf (vh_RR d 88 8) = .ref 95 := rfl
theorem rf88_9 {d : Nat} : va_rf (vh_RR d 88 9) = .ref 96 := rfl
theorem rf88_10 {d : Nat} : va_rf (vh_RR d 88 10) = .ref 97 := rfl
theorem rf88_11 {d : Nat} : va_rf (vh_RR d 88 11) = .ref 98 := rfl
theorem rf88_12 {d : Nat} : va_rf (vh_RR d 88 12) = .ref 99 := rfl
theorem rf88_25 {d : Nat} : va_rf (vh_RR d 88 25) = .ref 100 := rfl
theorem rf88_26 {d : Nat} : va_rf (vh_RR d 88 26) = .ref 101 := rfl
theorem rf88_28 {d : Nat} : va_rf (vh_RR d 88 28) = .ref 102 := rfl
theorem rf88_29 {d : Nat} : va_rf (vh_RR d 88 29) = .ref 103 := rfl
theorem rf88_30 {d : Nat} : va_rf (vh_RR d 88 30) = .ref 104 := rfl
theorem rf88_31 {d : Nat} : va_rf (vh_RR d 88 31) = .ref 105 := rfl
theorem rf88_34 {d : Nat} : va_rf (vh_RR d 88 34) = .ref 106 := rfl
theorem rf88_35 {d : Nat} : va_rf (vh_RR d 88 35) = .ref 107 := rfl
theorem rf88_36 {d : Nat} : va_rf (vh_RR d 88 36) = .ref 108 := rfl
theorem rf88_38 {d : Nat} : va_rf (vh_RR d 88 38) = .ref 109 := rfl
theorem rf88_39 {d : Nat} : va_rf (vh_RR d 88 39) = .ref 110 := rfl
theorem rf88_40 {d : Nat} : va_rf (vh_RR d 88 40) = .ref 111 := rfl
theorem rf88_41 {d : Nat} : va_rf (vh_RR d 88 41) = .ref 112 := rfl
theorem rf88_43 {d : Nat} : va_rf (vh_RR d 88 43) = .ref 113 := rfl
theorem rf88_44 {d : Nat} : va_rf (vh_RR d 88 44) = .ref 114 := rfl
theorem rf88_45 {d : Nat} : va_rf (vh_RR d 88 45) = .ref 115 := rfl
theorem rf88_47 {d : Nat} : va_rf (vh_RR d 88 47) = .ref 116 := rfl
theorem rf88_48 {d : Nat} : va_rf (vh_RR d 88 48) = .ref 117 := rfl
theorem rf88_49 {d : Nat} : va_rf (vh_RR d 88 49) = .ref 118 := rfl
theorem rf88_50 {d : Nat} : va_rf (vh_RR d 88 50) = .ref 119 := rfl
theorem rf88_51 {d : Nat} : va_rf (vh_RR d 88 51) = .ref 120 := rfl
theorem rf88_52 {d : Nat} : va_rf (vh_RR d 88 52) = .ref 121 := rfl
theorem rfD {d : Nat} : va_rf (vh_RR d 24 3) = .ref (26 + 4 * d) := rfl
theorem rfB {d k : Nat} (h : k < 16) : va_rf (vh_RR d 43 k) = .ref (47 + k) := by
  unfold vh_RR
  rw [show Nat.beq 43 43 = true from rfl, show Nat.blt k 16 = true from Nat.blt_eq.mpr h]
  rfl
theorem rfH {d k : Nat} (h : k < 4) : va_rf (vh_RR d 5 k) = .ref (6 + 4 * k) := by
  unfold vh_RR
  rw [show Nat.beq 5 43 = false from rfl, show Nat.beq 5 5 = true from rfl, show Nat.blt k 4 = true from Nat.blt_eq.mpr h]
  rfl
theorem rfE {d k : Nat} (h : k < 4) : va_rf (vh_RR d 25 k) = .ref (26 + 4 * k) := by
  unfold vh_RR
  rw [show Nat.beq 25 43 = false from rfl, show Nat.beq 25 5 = false from rfl, show Nat.beq 25 25 = true from rfl, show Nat.blt k 4 = true from Nat.blt_eq.mpr h]
  rfl
theorem vh_c4 {P : Nat → Prop} (h0 : P 0) (h1 : P 1) (h2 : P 2) (h3 : P 3) {k : Nat} (h : k < 4) : P k := by
  match k, h with
  | 0, _ => exact h0
  | 1, _ => exact h1
  | 2, _ => exact h2
  | 3, _ => exact h3
theorem rfHf {d k : Nat} (h : k < 4) : va_rf (vh_RR d (6 + 4 * k) 4) = .ref (7 + 4 * k) := vh_c4 (P := fun k => va_rf (vh_RR d (6 + 4 * k) 4) = .ref (7 + 4 * k)) rfl rfl rfl rfl h
theorem rfHr {d k : Nat} (h : k < 4) : va_rf (vh_RR d (6 + 4 * k) 5) = .ref (8 + 4 * k) := vh_c4 (P := fun k => va_rf (vh_RR d (6 + 4 * k) 5) = .ref (8 + 4 * k)) rfl rfl rfl rfl h
theorem rfHk {d k : Nat} (h : k < 4) : va_rf (vh_RR d (6 + 4 * k) 6) = .ref (9 + 4 * k) := vh_c4 (P := fun k => va_rf (vh_RR d (6 + 4 * k) 6) = .ref (9 + 4 * k)) rfl rfl rfl rfl h
theorem rfEf {d k : Nat} (h : k < 4) : va_rf (vh_RR d (26 + 4 * k) 4) = .ref (27 + 4 * k) := vh_c4 (P := fun k => va_rf (vh_RR d (26 + 4 * k) 4) = .ref (27 + 4 * k)) rfl rfl rfl rfl h
theorem rfEr {d k : Nat} (h : k < 4) : va_rf (vh_RR d (26 + 4 * k) 5) = .ref (28 + 4 * k) := vh_c4 (P := fun k => va_rf (vh_RR d (26 + 4 * k) 5) = .ref (28 + 4 * k)) rfl rfl rfl rfl h
theorem rfEk {d k : Nat} (h : k < 4) : va_rf (vh_RR d (26 + 4 * k) 6) = .ref (29 + 4 * k) := vh_c4 (P := fun k => va_rf (vh_RR d (26 + 4 * k) 6) = .ref (29 + 4 * k)) rfl rfl rfl rfl h
theorem okB0 : ∀ k, k < 16 → vh_okk (47 + k) 1 = true := by decide
theorem okB {k : Nat} (h : k < 16) : vh_okk (47 + k) 1 = true := okB0 k h
theorem okH {k : Nat} (h : k < 4) : vh_okk (6 + 4 * k) 4 = true := vh_c4 (P := fun k => vh_okk (6 + 4 * k) 4 = true) rfl rfl rfl rfl h
theorem okHf {k : Nat} (h : k < 4) : vh_okk (7 + 4 * k) 20 = true := vh_c4 (P := fun k => vh_okk (7 + 4 * k) 20 = true) rfl rfl rfl rfl h
theorem okHr {k : Nat} (h : k < 4) : vh_okk (8 + 4 * k) 20 = true := vh_c4 (P := fun k => vh_okk (8 + 4 * k) 20 = true) rfl rfl rfl rfl h
theorem okHk {k : Nat} (h : k < 4) : vh_okk (9 + 4 * k) 20 = true := vh_c4 (P := fun k => vh_okk (9 + 4 * k) 20 = true) rfl rfl rfl rfl h
theorem okE {k : Nat} (h : k < 4) : vh_okk (26 + 4 * k) 4 = true := vh_c4 (P := fun k => vh_okk (26 + 4 * k) 4 = true) rfl rfl rfl rfl h
theorem okEf {k : Nat} (h : k < 4) : vh_okk (27 + 4 * k) 20 = true := vh_c4 (P := fun k => vh_okk (27 + 4 * k) 20 = true) rfl rfl rfl rfl h
theorem okEr {k : Nat} (h : k < 4) : vh_okk (28 + 4 * k) 20 = true := vh_c4 (P := fun k => vh_okk (28 + 4 * k) 20 = true) rfl rfl rfl rfl h
theorem okEk {k : Nat} (h : k < 4) : vh_okk (29 + 4 * k) 20 = true := vh_c4 (P := fun k => vh_okk (29 + 4 * k) 20 = true) rfl rfl rfl rfl h
theorem kdHf {k : Nat} (h : k < 4) : (vh_kd (7 + 4 * k)).2 = 2 := vh_c4 (P := fun k => (vh_kd (7 + 4 * k)).2 = 2) rfl rfl rfl rfl h
theorem kdHr {k : Nat} (h : k < 4) : (vh_kd (8 + 4 * k)).2 = 5 := vh_c4 (P := fun k => (vh_kd (8 + 4 * k)).2 = 5) rfl rfl rfl rfl h
theorem kdHk {k : Nat} (h : k < 4) : (vh_kd (9 + 4 * k)).2 = 5 := vh_c4 (P := fun k => (vh_kd (9 + 4 * k)).2 = 5) rfl rfl rfl rfl h
theorem kdEf {k : Nat} (h : k < 4) : (vh_kd (27 + 4 * k)).2 = 2 := vh_c4 (P := fun k => (vh_kd (27 + 4 * k)).2 = 2) rfl rfl rfl rfl h
theorem kdEr {k : Nat} (h : k < 4) : (vh_kd (28 + 4 * k)).2 = 5 := vh_c4 (P := fun k => (vh_kd (28 + 4 * k)).2 = 5) rfl rfl rfl rfl h
theorem kdEk {k : Nat} (h : k < 4) : (vh_kd (29 + 4 * k)).2 = 5 := vh_c4 (P := fun k => (vh_kd (29 + 4 * k)).2 = 5) rfl rfl rfl rfl h
/-- memory -/
theorem sAs {α : Type} {m : Nat → α} {a : Nat} {f : α} : vh_sA m a f a = f := if_pos rfl
theorem sAn {α : Type} {m : Nat → α} {a c : Nat} {f : α} (h : c ≠ a) : vh_sA m a f c = m c := if_neg h
theorem sAA {α : Type} {m : Nat → α} {a : Nat} {f g : α} : vh_sA (vh_sA m a f) a g = vh_sA m a g := by
  funext c
  unfold vh_sA
  split <;> rfl
theorem sAe {α : Type} {m : Nat → α} {a : Nat} : vh_sA m a (m a) = m := by
  funext c
  unfold vh_sA
  split
  · rename_i h; rw [h]
  · rfl
theorem ups {f : Nat → Int32} {k : Nat} {x : Int32} : upd f k x k = x := if_pos rfl
theorem upn {f : Nat → Int32} {k j : Nat} {x : Int32} (h : j ≠ k) : upd f k x j = f j := if_neg h
/-- numbers -/
theorem li {n : Nat} : (OfNat.ofNat n : Int32) = nI n := rfl
theorem ixa {a k : Nat} (h : k < (vh_kd a).2) (h2 : k < 2 ^ 31) : vh_ixa a (nI k) = true := by
  unfold vh_ixa vh_ix
  have := nI_in (c := k) (N := k + 1) (by omega)
  rw [decide_eq_true_eq]
  rw [nI_clamp h2]
  rintro (q | q)
  · exact nI_pos h2 q
  · omega
def vb (p : Prop) [Decidable p] : Int32 := if p then 1 else 0
theorem vb1 {p : Prop} [Decidable p] : vb p &&& 1 = vb p := by unfold vb; split <;> decide
theorem vb_t {p : Prop} [Decidable p] (h : p) : vb p = 1 := if_pos h
theorem vb_f {p : Prop} [Decidable p] (h : ¬ p) : vb p = 0 := if_neg h
theorem vb0 {p : Prop} [Decidable p] : (vb p = 0) = ¬ p := by
  unfold vb
  split <;> rename_i h <;> simp [h]
theorem vbz : (0 : Int32) &&& 1 = 0 := by decide
theorem vbo : (1 : Int32) &&& 1 = 1 := by decide
theorem i32_ltI {x y : Int32} : x < y ↔ x.toInt < y.toInt := Int32.lt_iff_toInt_lt
theorem i32_leI {x y : Int32} : x ≤ y ↔ x.toInt ≤ y.toInt := Int32.le_iff_toInt_le
theorem i32_eqI {x y : Int32} : x = y ↔ x.toInt = y.toInt := Int32.toInt_inj.symm
theorem nIr {x : Int32} {n : Nat} (h0 : 0 ≤ x) (h1 : x ≤ nI n) (hn : n < 2 ^ 31) : ∃ k : Nat, k ≤ n ∧ x = nI k := nI_of2 (nI_toInt hn) (fun h => by rw [i32_ltI] at h; rw [i32_leI] at h0; omega) h1
