/-! the tables against the bytes and against the words -/
def gW : List Cond := lw_tbl.filter goodWord
def okW (p : Nat) (x : Cond) : Bool := decide (lw_tbl[p]? = some x) && goodWord x
theorem okW_in {p : Nat} {x : Cond} (h : okW p x = true) : x ∈ gW := by
  simp only [okW, Bool.and_eq_true, decide_eq_true_eq] at h
  exact List.mem_filter.mpr ⟨List.mem_of_getElem? h.1, h.2⟩
theorem gW_good : GoodIn gW gW := fun x h => ⟨h, good_of_word (List.mem_filter.mp h).2⟩
theorem gW_tbl {x : Cond} (h : x ∈ gW) : x ∈ lw_tbl := (List.mem_filter.mp h).1
/-- own, entry, the field's class and slot, the word's place -/
def flT : List (Nat × Nat × Nat × Nat × Nat) := [(1, 9, 1, 0, 80), (6, 71, 1, 0, 81), (2, 49, 1, 0, 82), (1, 15, 1, 1, 83), (6, 68, 1, 1, 84), (2, 61, 1, 1, 85), (2, 9, 2, 0, 98), (0, 27, 2, 0, 99), (5, 24, 2, 0, 100), (3, 40, 2, 0, 101), (6, 201, 2, 0, 102), (2, 15, 2, 1, 103), (3, 63, 2, 1, 104), (6, 221, 2, 1, 105), (2, 18, 2, 2, 106), (3, 72, 2, 2, 107), (6, 148, 2, 2, 108), (2, 21, 2, 3, 109), (6, 230, 2, 3, 110), (2, 24, 2, 4, 111), (0, 43, 2, 4, 112), (5, 37, 2, 4, 113), (3, 66, 2, 4, 114), (4, 30, 2, 4, 115), (6, 91, 2, 4, 116), (2, 28, 2, 5, 117), (0, 53, 2, 5, 118), (6, 94, 2, 5, 119), (2, 31, 2, 6, 120), (3, 69, 2, 6, 121), (0, 70, 2, 6, 122), (6, 97, 2, 6, 123), (2, 34, 2, 7, 124), (0, 36, 2, 7, 125), (6, 100, 2, 7, 126), (2, 37, 2, 8, 127), (4, 35, 2, 8, 128), (3, 79, 2, 8, 129), (6, 103, 2, 8, 130), (2, 40, 2, 9, 131), (6, 141, 2, 9, 132), (4, 9, 4, 0, 160), (6, 86, 4, 0, 161), (4, 15, 4, 1, 162), (4, 19, 4, 2, 163), (4, 22, 4, 3, 164), (3, 11, 3, 0, 183), (3, 16, 3, 1, 184), (3, 20, 3, 2, 185), (3, 23, 3, 3, 186), (3, 26, 3, 4, 187), (3, 30, 3, 5, 188), (3, 33, 3, 6, 189), (3, 37, 3, 7, 190), (0, 11, 0, 0, 215), (0, 16, 0, 1, 216), (0, 20, 0, 2, 217), (6, 184, 0, 2, 218), (0, 24, 0, 3, 219), (6, 187, 0, 3, 220), (5, 9, 5, 0, 236), (5, 15, 5, 1, 237), (6, 12, 6, 0, 243), (6, 19, 6, 1, 244), (6, 23, 6, 2, 245), (6, 26, 6, 3, 246), (6, 32, 6, 4, 247), (6, 36, 6, 5, 248), (6, 42, 6, 6, 249), (6, 49, 6, 7, 250), (6, 56, 6, 8, 251), (6, 60, 6, 9, 252), (6, 64, 6, 10, 253), (7, 7, 7, 0, 707), (7, 77, 7, 1, 708), (7, 90, 7, 2, 709), (7, 104, 7, 3, 710), (7, 107, 7, 4, 711), (7, 110, 7, 5, 712), (7, 113, 7, 6, 713), (7, 119, 7, 7, 714), (7, 13, 7, 8, 715), (7, 16, 7, 9, 716), (7, 19, 7, 10, 717), (7, 22, 7, 11, 718), (7, 25, 7, 12, 719), (7, 28, 7, 13, 720), (7, 31, 7, 14, 721), (7, 34, 7, 15, 722), (7, 37, 7, 16, 723), (7, 40, 7, 17, 724), (7, 43, 7, 18, 725), (7, 116, 7, 19, 726), (7, 46, 7, 20, 727), (7, 244, 7, 21, 728), (7, 49, 7, 22, 729), (7, 67, 7, 23, 730), (7, 259, 7, 24, 731), (7, 262, 7, 25, 732), (7, 265, 7, 26, 733), (7, 52, 7, 27, 734), (7, 55, 7, 28, 735), (7, 58, 7, 29, 736), (7, 61, 7, 30, 737), (7, 64, 7, 31, 738), (7, 276, 7, 32, 739)]
def chkF (e : Nat × Nat × Nat × Nat × Nat) : Bool := match vwCl[e.2.2.1]? with
  | some (C, Tt, N) => okW e.2.2.2.2 (.fieldLink (clN e.1) e.2.1 C (Tt e.2.2.2.1).2.1 (Tt e.2.2.2.1).2.2.1) && (decide ((Tt e.2.2.2.1).1 = C) && decide (e.2.2.2.1 < N))
  | none => false
theorem flOK : flT.all chkF = true := by decide +kernel
set_option maxRecDepth 20000 in
theorem cw_0 : lw_tbl[596]? = some (.code (mY 0) (mC 0) (mL 0) (mR 0)) := rfl
set_option maxRecDepth 20000 in
theorem cw_1 : lw_tbl[600]? = some (.code (mY 1) (mC 1) (mL 1) (mR 1)) := rfl
set_option maxRecDepth 20000 in
theorem cw_2 : lw_tbl[606]? = some (.code (mY 2) (mC 2) (mL 2) (mR 2)) := rfl
set_option maxRecDepth 20000 in
theorem cw_3 : lw_tbl[611]? = some (.code (mY 3) (mC 3) (mL 3) (mR 3)) := rfl
set_option maxRecDepth 20000 in
theorem cw_4 : lw_tbl[616]? = some (.code (mY 4) (mC 4) (mL 4) (mR 4)) := rfl
set_option maxRecDepth 20000 in
theorem cw_5 : lw_tbl[292]? = some (.code (mY 5) (mC 5) (mL 5) (mR 5)) := rfl
set_option maxRecDepth 20000 in
theorem cw_6 : lw_tbl[369]? = some (.code (mY 6) (mC 6) (mL 6) (mR 6)) := rfl
set_option maxRecDepth 20000 in
theorem cw_7 : lw_tbl[373]? = some (.code (mY 7) (mC 7) (mL 7) (mR 7)) := rfl
set_option maxRecDepth 20000 in
theorem cw_8 : lw_tbl[296]? = some (.code (mY 8) (mC 8) (mL 8) (mR 8)) := rfl
set_option maxRecDepth 20000 in
theorem cw_9 : lw_tbl[357]? = some (.code (mY 9) (mC 9) (mL 9) (mR 9)) := rfl
set_option maxRecDepth 20000 in
theorem cw_10 : lw_tbl[299]? = some (.code (mY 10) (mC 10) (mL 10) (mR 10)) := rfl
set_option maxRecDepth 20000 in
theorem cw_11 : lw_tbl[354]? = some (.code (mY 11) (mC 11) (mL 11) (mR 11)) := rfl
set_option maxRecDepth 20000 in
theorem cw_12 : lw_tbl[360]? = some (.code (mY 12) (mC 12) (mL 12) (mR 12)) := rfl
set_option maxRecDepth 20000 in
theorem cw_13 : lw_tbl[302]? = some (.code (mY 13) (mC 13) (mL 13) (mR 13)) := rfl
set_option maxRecDepth 20000 in
theorem cw_14 : lw_tbl[393]? = some (.code (mY 14) (mC 14) (mL 14) (mR 14)) := rfl
set_option maxRecDepth 20000 in
theorem cw_15 : lw_tbl[479]? = some (.code (mY 15) (mC 15) (mL 15) (mR 15)) := rfl
set_option maxRecDepth 20000 in
theorem cw_16 : lw_tbl[378]? = some (.code (mY 16) (mC 16) (mL 16) (mR 16)) := rfl
set_option maxRecDepth 20000 in
theorem cw_17 : lw_tbl[573]? = some (.code (mY 17) (mC 17) (mL 17) (mR 17)) := rfl
set_option maxRecDepth 20000 in
theorem cw_18 : lw_tbl[389]? = some (.code (mY 18) (mC 18) (mL 18) (mR 18)) := rfl
set_option maxRecDepth 20000 in
theorem cw_19 : lw_tbl[397]? = some (.code (mY 19) (mC 19) (mL 19) (mR 19)) := rfl
set_option maxRecDepth 20000 in
theorem cw_20 : lw_tbl[411]? = some (.code (mY 20) (mC 20) (mL 20) (mR 20)) := rfl
set_option maxRecDepth 20000 in
theorem cw_21 : lw_tbl[459]? = some (.code (mY 21) (mC 21) (mL 21) (mR 21)) := rfl
set_option maxRecDepth 20000 in
theorem cw_22 : lw_tbl[418]? = some (.code (mY 22) (mC 22) (mL 22) (mR 22)) := rfl
set_option maxRecDepth 20000 in
theorem cw_23 : lw_tbl[446]? = some (.code (mY 23) (mC 23) (mL 23) (mR 23)) := rfl
set_option maxRecDepth 20000 in
theorem cw_24 : lw_tbl[454]? = some (.code (mY 24) (mC 24) (mL 24) (mR 24)) := rfl
set_option maxRecDepth 20000 in
theorem cw_25 : lw_tbl[450]? = some (.code (mY 25) (mC 25) (mL 25) (mR 25)) := rfl
set_option maxRecDepth 20000 in
theorem cw_26 : lw_tbl[648]? = some (.code (mY 26) (mC 26) (mL 26) (mR 26)) := rfl
set_option maxRecDepth 20000 in
theorem cw_27 : lw_tbl[495]? = some (.code (mY 27) (mC 27) (mL 27) (mR 27)) := rfl
set_option maxRecDepth 20000 in
theorem cw_28 : lw_tbl[583]? = some (.code (mY 28) (mC 28) (mL 28) (mR 28)) := rfl
set_option maxRecDepth 20000 in
theorem cw_29 : lw_tbl[673]? = some (.code (mY 29) (mC 29) (mL 29) (mR 29)) := rfl
set_option maxRecDepth 20000 in
theorem cw_30 : lw_tbl[653]? = some (.code (mY 30) (mC 30) (mL 30) (mR 30)) := rfl
set_option maxRecDepth 20000 in
theorem cw_31 : lw_tbl[677]? = some (.code (mY 31) (mC 31) (mL 31) (mR 31)) := rfl
set_option maxRecDepth 20000 in
theorem cw_32 : lw_tbl[520]? = some (.code (mY 32) (mC 32) (mL 32) (mR 32)) := rfl
set_option maxRecDepth 20000 in
theorem cw_33 : lw_tbl[524]? = some (.code (mY 33) (mC 33) (mL 33) (mR 33)) := rfl
set_option maxRecDepth 20000 in
theorem cw_34 : lw_tbl[561]? = some (.code (mY 34) (mC 34) (mL 34) (mR 34)) := rfl
set_option maxRecDepth 20000 in
theorem cw_35 : lw_tbl[530]? = some (.code (mY 35) (mC 35) (mL 35) (mR 35)) := rfl
set_option maxRecDepth 20000 in
theorem cw_36 : lw_tbl[534]? = some (.code (mY 36) (mC 36) (mL 36) (mR 36)) := rfl
set_option maxRecDepth 20000 in
theorem cw_37 : lw_tbl[539]? = some (.code (mY 37) (mC 37) (mL 37) (mR 37)) := rfl
set_option maxRecDepth 20000 in
theorem cw_38 : lw_tbl[542]? = some (.code (mY 38) (mC 38) (mL 38) (mR 38)) := rfl
set_option maxRecDepth 20000 in
theorem cw_39 : lw_tbl[546]? = some (.code (mY 39) (mC 39) (mL 39) (mR 39)) := rfl
set_option maxRecDepth 20000 in
theorem cw_40 : lw_tbl[553]? = some (.code (mY 40) (mC 40) (mL 40) (mR 40)) := rfl
set_option maxRecDepth 20000 in
theorem cw_41 : lw_tbl[625]? = some (.code (mY 41) (mC 41) (mL 41) (mR 41)) := rfl
set_option maxRecDepth 20000 in
theorem cw_42 : lw_tbl[661]? = some (.code (mY 42) (mC 42) (mL 42) (mR 42)) := rfl
set_option maxRecDepth 20000 in
theorem cw_43 : lw_tbl[422]? = some (.code (mY 43) (mC 43) (mL 43) (mR 43)) := rfl
set_option maxRecDepth 20000 in
theorem cw_44 : lw_tbl[426]? = some (.code (mY 44) (mC 44) (mL 44) (mR 44)) := rfl
set_option maxRecDepth 20000 in
theorem cw_45 : lw_tbl[431]? = some (.code (mY 45) (mC 45) (mL 45) (mR 45)) := rfl
set_option maxRecDepth 20000 in
theorem cw_46 : lw_tbl[435]? = some (.code (mY 46) (mC 46) (mL 46) (mR 46)) := rfl
set_option maxRecDepth 20000 in
theorem cw_47 : lw_tbl[569]? = some (.code (mY 47) (mC 47) (mL 47) (mR 47)) := rfl
set_option maxRecDepth 20000 in
theorem cw_48 : lw_tbl[578]? = some (.code (mY 48) (mC 48) (mL 48) (mR 48)) := rfl
set_option maxRecDepth 20000 in
theorem cw_49 : lw_tbl[588]? = some (.code (mY 49) (mC 49) (mL 49) (mR 49)) := rfl
set_option maxRecDepth 20000 in
theorem cw_50 : lw_tbl[280]? = some (.code (mY 50) (mC 50) (mL 50) (mR 50)) := rfl
set_option maxRecDepth 20000 in
theorem cw_51 : lw_tbl[284]? = some (.code (mY 51) (mC 51) (mL 51) (mR 51)) := rfl
set_option maxRecDepth 20000 in
theorem cw_52 : lw_tbl[288]? = some (.code (mY 52) (mC 52) (mL 52) (mR 52)) := rfl
set_option maxRecDepth 20000 in
theorem cw_53 : lw_tbl[365]? = some (.code (mY 53) (mC 53) (mL 53) (mR 53)) := rfl
set_option maxRecDepth 20000 in
theorem cw_54 : lw_tbl[405]? = some (.code (mY 54) (mC 54) (mL 54) (mR 54)) := rfl
set_option maxRecDepth 20000 in
theorem cw_55 : lw_tbl[463]? = some (.code (mY 55) (mC 55) (mL 55) (mR 55)) := rfl
set_option maxRecDepth 20000 in
theorem cw_56 : lw_tbl[475]? = some (.code (mY 56) (mC 56) (mL 56) (mR 56)) := rfl
set_option maxRecDepth 20000 in
theorem cw_57 : lw_tbl[483]? = some (.code (mY 57) (mC 57) (mL 57) (mR 57)) := rfl
set_option maxRecDepth 20000 in
theorem cw_58 : lw_tbl[487]? = some (.code (mY 58) (mC 58) (mL 58) (mR 58)) := rfl
set_option maxRecDepth 20000 in
theorem cw_59 : lw_tbl[504]? = some (.code (mY 59) (mC 59) (mL 59) (mR 59)) := rfl
set_option maxRecDepth 20000 in
theorem cw_60 : lw_tbl[509]? = some (.code (mY 60) (mC 60) (mL 60) (mR 60)) := rfl
set_option maxRecDepth 20000 in
theorem cw_61 : lw_tbl[513]? = some (.code (mY 61) (mC 61) (mL 61) (mR 61)) := rfl
set_option maxRecDepth 20000 in
theorem cw_62 : lw_tbl[517]? = some (.code (mY 62) (mC 62) (mL 62) (mR 62)) := rfl
set_option maxRecDepth 20000 in
theorem cw_63 : lw_tbl[557]? = some (.code (mY 63) (mC 63) (mL 63) (mR 63)) := rfl
set_option maxRecDepth 20000 in
theorem cw_64 : lw_tbl[565]? = some (.code (mY 64) (mC 64) (mL 64) (mR 64)) := rfl
set_option maxRecDepth 20000 in
theorem cw_65 : lw_tbl[592]? = some (.code (mY 65) (mC 65) (mL 65) (mR 65)) := rfl
set_option maxRecDepth 20000 in
theorem cw_66 : lw_tbl[621]? = some (.code (mY 66) (mC 66) (mL 66) (mR 66)) := rfl
set_option maxRecDepth 20000 in
theorem cw_67 : lw_tbl[629]? = some (.code (mY 67) (mC 67) (mL 67) (mR 67)) := rfl
set_option maxRecDepth 20000 in
theorem cw_68 : lw_tbl[633]? = some (.code (mY 68) (mC 68) (mL 68) (mR 68)) := rfl
set_option maxRecDepth 20000 in
theorem cw_69 : lw_tbl[657]? = some (.code (mY 69) (mC 69) (mL 69) (mR 69)) := rfl
set_option maxRecDepth 20000 in
theorem cw_70 : lw_tbl[665]? = some (.code (mY 70) (mC 70) (mL 70) (mR 70)) := rfl
set_option maxRecDepth 20000 in
theorem cw_71 : lw_tbl[669]? = some (.code (mY 71) (mC 71) (mL 71) (mR 71)) := rfl
set_option maxRecDepth 20000 in
theorem cw_72 : lw_tbl[681]? = some (.code (mY 72) (mC 72) (mL 72) (mR 72)) := rfl
set_option maxRecDepth 20000 in
theorem cw_73 : lw_tbl[686]? = some (.code (mY 73) (mC 73) (mL 73) (mR 73)) := rfl
set_option maxRecDepth 20000 in
theorem cw_74 : lw_tbl[695]? = some (.code (mY 74) (mC 74) (mL 74) (mR 74)) := rfl
set_option maxRecDepth 20000 in
theorem cw_75 : lw_tbl[699]? = some (.code (mY 75) (mC 75) (mL 75) (mR 75)) := rfl
set_option maxRecDepth 20000 in
theorem cw_76 : lw_tbl[491]? = some (.code (mY 76) (mC 76) (mL 76) (mR 76)) := rfl
set_option maxRecDepth 20000 in
theorem cw_77 : lw_tbl[690]? = some (.code (mY 77) (mC 77) (mL 77) (mR 77)) := rfl
set_option maxRecDepth 20000 in
theorem cw_78 : lw_tbl[466]? = some (.code (mY 78) (mC 78) (mL 78) (mR 78)) := rfl
set_option maxRecDepth 20000 in
theorem cw_79 : lw_tbl[471]? = some (.code (mY 79) (mC 79) (mL 79) (mR 79)) := rfl
set_option maxRecDepth 20000 in
theorem cw_80 : lw_tbl[400]? = some (.code (mY 80) (mC 80) (mL 80) (mR 80)) := rfl
set_option maxRecDepth 20000 in
theorem cw_81 : lw_tbl[414]? = some (.code (mY 81) (mC 81) (mL 81) (mR 81)) := rfl
set_option maxRecDepth 20000 in
theorem cw_82 : lw_tbl[499]? = some (.code (mY 82) (mC 82) (mL 82) (mR 82)) := rfl
set_option maxRecDepth 20000 in
theorem cw_83 : lw_tbl[637]? = some (.code (mY 83) (mC 83) (mL 83) (mR 83)) := rfl
set_option maxRecDepth 20000 in
theorem cw_84 : lw_tbl[643]? = some (.code (mY 84) (mC 84) (mL 84) (mR 84)) := rfl
set_option maxRecDepth 20000 in
theorem cw_85 : lw_tbl[814]? = some (.code (mY 85) (mC 85) (mL 85) (mR 85)) := rfl
set_option maxRecDepth 20000 in
theorem cw_86 : lw_tbl[926]? = some (.code (mY 86) (mC 86) (mL 86) (mR 86)) := rfl
set_option maxRecDepth 20000 in
theorem cw_87 : lw_tbl[994]? = some (.code (mY 87) (mC 87) (mL 87) (mR 87)) := rfl
set_option maxRecDepth 20000 in
theorem cw_88 : lw_tbl[810]? = some (.code (mY 88) (mC 88) (mL 88) (mR 88)) := rfl
set_option maxRecDepth 20000 in
theorem cw_89 : lw_tbl[818]? = some (.code (mY 89) (mC 89) (mL 89) (mR 89)) := rfl
set_option maxRecDepth 20000 in
theorem cw_90 : lw_tbl[837]? = some (.code (mY 90) (mC 90) (mL 90) (mR 90)) := rfl
set_option maxRecDepth 20000 in
theorem cw_91 : lw_tbl[834]? = some (.code (mY 91) (mC 91) (mL 91) (mR 91)) := rfl
set_option maxRecDepth 20000 in
theorem cw_92 : lw_tbl[830]? = some (.code (mY 92) (mC 92) (mL 92) (mR 92)) := rfl
set_option maxRecDepth 20000 in
theorem cw_93 : lw_tbl[826]? = some (.code (mY 93) (mC 93) (mL 93) (mR 93)) := rfl
set_option maxRecDepth 20000 in
theorem cw_94 : lw_tbl[822]? = some (.code (mY 94) (mC 94) (mL 94) (mR 94)) := rfl
set_option maxRecDepth 20000 in
theorem cw_95 : lw_tbl[844]? = some (.code (mY 95) (mC 95) (mL 95) (mR 95)) := rfl
set_option maxRecDepth 20000 in
theorem cw_96 : lw_tbl[919]? = some (.code (mY 96) (mC 96) (mL 96) (mR 96)) := rfl
set_option maxRecDepth 20000 in
theorem cw_97 : lw_tbl[852]? = some (.code (mY 97) (mC 97) (mL 97) (mR 97)) := rfl
set_option maxRecDepth 20000 in
theorem cw_98 : lw_tbl[907]? = some (.code (mY 98) (mC 98) (mL 98) (mR 98)) := rfl
set_option maxRecDepth 20000 in
theorem cw_99 : lw_tbl[867]? = some (.code (mY 99) (mC 99) (mL 99) (mR 99)) := rfl
set_option maxRecDepth 20000 in
theorem cw_100 : lw_tbl[864]? = some (.code (mY 100) (mC 100) (mL 100) (mR 100)) := rfl
set_option maxRecDepth 20000 in
theorem cw_101 : lw_tbl[870]? = some (.code (mY 101) (mC 101) (mL 101) (mR 101)) := rfl
set_option maxRecDepth 20000 in
theorem cw_102 : lw_tbl[860]? = some (.code (mY 102) (mC 102) (mL 102) (mR 102)) := rfl
set_option maxRecDepth 20000 in
theorem cw_103 : lw_tbl[974]? = some (.code (mY 103) (mC 103) (mL 103) (mR 103)) := rfl
set_option maxRecDepth 20000 in
theorem cw_104 : lw_tbl[978]? = some (.code (mY 104) (mC 104) (mL 104) (mR 104)) := rfl
set_option maxRecDepth 20000 in
theorem cw_105 : lw_tbl[934]? = some (.code (mY 105) (mC 105) (mL 105) (mR 105)) := rfl
set_option maxRecDepth 20000 in
theorem cw_106 : lw_tbl[923]? = some (.code (mY 106) (mC 106) (mL 106) (mR 106)) := rfl
set_option maxRecDepth 20000 in
theorem cw_107 : lw_tbl[930]? = some (.code (mY 107) (mC 107) (mL 107) (mR 107)) := rfl
set_option maxRecDepth 20000 in
theorem cw_108 : lw_tbl[874]? = some (.code (mY 108) (mC 108) (mL 108) (mR 108)) := rfl
set_option maxRecDepth 20000 in
theorem cw_109 : lw_tbl[894]? = some (.code (mY 109) (mC 109) (mL 109) (mR 109)) := rfl
set_option maxRecDepth 20000 in
theorem cw_110 : lw_tbl[890]? = some (.code (mY 110) (mC 110) (mL 110) (mR 110)) := rfl
set_option maxRecDepth 20000 in
theorem cw_111 : lw_tbl[856]? = some (.code (mY 111) (mC 111) (mL 111) (mR 111)) := rfl
set_option maxRecDepth 20000 in
theorem cw_112 : lw_tbl[848]? = some (.code (mY 112) (mC 112) (mL 112) (mR 112)) := rfl
set_option maxRecDepth 20000 in
theorem cw_113 : lw_tbl[898]? = some (.code (mY 113) (mC 113) (mL 113) (mR 113)) := rfl
set_option maxRecDepth 20000 in
theorem cw_114 : lw_tbl[903]? = some (.code (mY 114) (mC 114) (mL 114) (mR 114)) := rfl
set_option maxRecDepth 20000 in
theorem cw_115 : lw_tbl[911]? = some (.code (mY 115) (mC 115) (mL 115) (mR 115)) := rfl
set_option maxRecDepth 20000 in
theorem cw_116 : lw_tbl[915]? = some (.code (mY 116) (mC 116) (mL 116) (mR 116)) := rfl
set_option maxRecDepth 20000 in
theorem cw_117 : lw_tbl[938]? = some (.code (mY 117) (mC 117) (mL 117) (mR 117)) := rfl
set_option maxRecDepth 20000 in
theorem cw_118 : lw_tbl[943]? = some (.code (mY 118) (mC 118) (mL 118) (mR 118)) := rfl
set_option maxRecDepth 20000 in
theorem cw_119 : lw_tbl[947]? = some (.code (mY 119) (mC 119) (mL 119) (mR 119)) := rfl
set_option maxRecDepth 20000 in
theorem cw_120 : lw_tbl[962]? = some (.code (mY 120) (mC 120) (mL 120) (mR 120)) := rfl
set_option maxRecDepth 20000 in
theorem cw_121 : lw_tbl[970]? = some (.code (mY 121) (mC 121) (mL 121) (mR 121)) := rfl
set_option maxRecDepth 20000 in
theorem cw_122 : lw_tbl[966]? = some (.code (mY 122) (mC 122) (mL 122) (mR 122)) := rfl
set_option maxRecDepth 20000 in
theorem cw_123 : lw_tbl[957]? = some (.code (mY 123) (mC 123) (mL 123) (mR 123)) := rfl
set_option maxRecDepth 20000 in
theorem cw_124 : lw_tbl[951]? = some (.code (mY 124) (mC 124) (mL 124) (mR 124)) := rfl
set_option maxRecDepth 20000 in
theorem cw_125 : lw_tbl[991]? = some (.code (mY 125) (mC 125) (mL 125) (mR 125)) := rfl
set_option maxRecDepth 20000 in
theorem cw_126 : lw_tbl[987]? = some (.code (mY 126) (mC 126) (mL 126) (mR 126)) := rfl
set_option maxRecDepth 20000 in
theorem cw_127 : lw_tbl[982]? = some (.code (mY 127) (mC 127) (mL 127) (mR 127)) := rfl
set_option maxRecDepth 20000 in
theorem cw_128 : lw_tbl[1006]? = some (.code (mY 128) (mC 128) (mL 128) (mR 128)) := rfl
set_option maxRecDepth 20000 in
theorem cw_129 : lw_tbl[1002]? = some (.code (mY 129) (mC 129) (mL 129) (mR 129)) := rfl
set_option maxRecDepth 20000 in
theorem cw_130 : lw_tbl[998]? = some (.code (mY 130) (mC 130) (mL 130) (mR 130)) := rfl
set_option maxRecDepth 20000 in
theorem cw_131 : lw_tbl[1023]? = some (.code (mY 131) (mC 131) (mL 131) (mR 131)) := rfl
set_option maxRecDepth 20000 in
theorem cw_132 : lw_tbl[1018]? = some (.code (mY 132) (mC 132) (mL 132) (mR 132)) := rfl
set_option maxRecDepth 20000 in
theorem cw_133 : lw_tbl[1014]? = some (.code (mY 133) (mC 133) (mL 133) (mR 133)) := rfl
set_option maxRecDepth 20000 in
theorem cw_134 : lw_tbl[1010]? = some (.code (mY 134) (mC 134) (mL 134) (mR 134)) := rfl
set_option maxRecDepth 20000 in
theorem cw_135 : lw_tbl[1027]? = some (.code (mY 135) (mC 135) (mL 135) (mR 135)) := rfl
set_option maxRecDepth 20000 in
theorem cw_136 : lw_tbl[1032]? = some (.code (mY 136) (mC 136) (mL 136) (mR 136)) := rfl
set_option maxRecDepth 20000 in
theorem cw_137 : lw_tbl[882]? = some (.code (mY 137) (mC 137) (mL 137) (mR 137)) := rfl
set_option maxRecDepth 20000 in
theorem cw_138 : lw_tbl[878]? = some (.code (mY 138) (mC 138) (mL 138) (mR 138)) := rfl
set_option maxRecDepth 20000 in
theorem cw_139 : lw_tbl[886]? = some (.code (mY 139) (mC 139) (mL 139) (mR 139)) := rfl
set_option maxRecDepth 20000 in
theorem cw_140 : lw_tbl[1042]? = some (.code (mY 140) (mC 140) (mL 140) (mR 140)) := rfl
set_option maxRecDepth 20000 in
theorem cw_141 : lw_tbl[1036]? = some (.code (mY 141) (mC 141) (mL 141) (mR 141)) := rfl
set_option maxRecDepth 20000 in
theorem cw_142 : lw_tbl[1050]? = some (.code (mY 142) (mC 142) (mL 142) (mR 142)) := rfl
set_option maxRecDepth 20000 in
theorem cw_143 : lw_tbl[1054]? = some (.code (mY 143) (mC 143) (mL 143) (mR 143)) := rfl
set_option maxRecDepth 20000 in
theorem cw_144 : lw_tbl[1066]? = some (.code (mY 144) (mC 144) (mL 144) (mR 144)) := rfl
set_option maxRecDepth 20000 in
theorem cw_145 : lw_tbl[1062]? = some (.code (mY 145) (mC 145) (mL 145) (mR 145)) := rfl
set_option maxRecDepth 20000 in
theorem cw_146 : lw_tbl[1058]? = some (.code (mY 146) (mC 146) (mL 146) (mR 146)) := rfl
set_option maxRecDepth 20000 in
theorem cw_147 : lw_tbl[1075]? = some (.code (mY 147) (mC 147) (mL 147) (mR 147)) := rfl
set_option maxRecDepth 20000 in
theorem cw_148 : lw_tbl[1080]? = some (.code (mY 148) (mC 148) (mL 148) (mR 148)) := rfl
set_option maxRecDepth 20000 in
theorem cw_149 : lw_tbl[1084]? = some (.code (mY 149) (mC 149) (mL 149) (mR 149)) := rfl
set_option maxRecDepth 20000 in
theorem cw_150 : lw_tbl[1070]? = some (.code (mY 150) (mC 150) (mL 150) (mR 150)) := rfl
set_option maxRecDepth 20000 in
theorem cw_151 : lw_tbl[438]? = some (.code (mY 151) (mC 151) (mL 151) (mR 151)) := rfl
def allP (P : Nat → Prop) : Nat → Nat → Prop
  | _, 0 => True
  | i, n + 1 => P i ∧ allP P (i + 1) n
theorem allP_get {P : Nat → Prop} : ∀ (n i k : Nat), allP P i n → k < n → P (i + k) := by
  intro n
  induction n with
  | zero => intro i k _ h; omega
  | succ n ih =>
    intro i k h hk
    cases k with
    | zero => exact h.1
    | succ k =>
      have := ih (i + 1) k h.2 (by omega)
      rw [show i + (k + 1) = i + 1 + k by omega]
      exact this
theorem cw_in {x : Cond} {q : Nat} (h : lw_tbl[q]? = some x) (g : goodWord x = true) : x ∈ gW := List.mem_filter.mpr ⟨List.mem_of_getElem? h, g⟩
set_option maxRecDepth 20000 in
theorem cwAll : allP (fun mj => mj ≠ mLaw → Cond.code (mY mj) (mC mj) (mL mj) (mR mj) ∈ gW) 0 153 := And.intro (fun _ => cw_in cw_0 rfl) (And.intro (fun _ => cw_in cw_1 rfl) (And.intro (fun _ => cw_in cw_2 rfl) (And.intro (fun _ => cw_in cw_3 rfl) (And.intro (fun _ => cw_in cw_4 rfl) (And.intro (fun _ => cw_in cw_5 rfl) (And.intro (fun _ => cw_in cw_6 rfl) (And.intro (fun _ => cw_in cw_7 rfl) (And.intro (fun _ => cw_in cw_8 rfl) (And.intro (fun _ => cw_in cw_9 rfl) (And.intro (fun _ => cw_in cw_10 rfl) (And.intro (fun _ => cw_in cw_11 rfl) (And.intro (fun _ => cw_in cw_12 rfl) (And.intro (fun _ => cw_in cw_13 rfl) (And.intro (fun _ => cw_in cw_14 rfl) (And.intro (fun _ => cw_in cw_15 rfl) (And.intro (fun _ => cw_in cw_16 rfl) (And.intro (fun _ => cw_in cw_17 rfl) (And.intro (fun _ => cw_in cw_18 rfl) (And.intro (fun _ => cw_in cw_19 rfl) (And.intro (fun _ => cw_in cw_20 rfl) (And.intro (fun _ => cw_in cw_21 rfl) (And.intro (fun _ => cw_in cw_22 rfl) (And.intro (fun _ => cw_in cw_23 rfl) (And.intro (fun _ => cw_in cw_24 rfl) (And.intro (fun _ => cw_in cw_25 rfl) (And.intro (fun _ => cw_in cw_26 rfl) (And.intro (fun _ => cw_in cw_27 rfl) (And.intro (fun _ => cw_in cw_28 rfl) (And.intro (fun _ => cw_in cw_29 rfl) (And.intro (fun _ => cw_in cw_30 rfl) (And.intro (fun _ => cw_in cw_31 rfl) (And.intro (fun _ => cw_in cw_32 rfl) (And.intro (fun _ => cw_in cw_33 rfl) (And.intro (fun _ => cw_in cw_34 rfl) (And.intro (fun _ => cw_in cw_35 rfl) (And.intro (fun _ => cw_in cw_36 rfl) (And.intro (fun _ => cw_in cw_37 rfl) (And.intro (fun _ => cw_in cw_38 rfl) (And.intro (fun _ => cw_in cw_39 rfl) (And.intro (fun _ => cw_in cw_40 rfl) (And.intro (fun _ => cw_in cw_41 rfl) (And.intro (fun _ => cw_in cw_42 rfl) (And.intro (fun _ => cw_in cw_43 rfl) (And.intro (fun _ => cw_in cw_44 rfl) (And.intro (fun _ => cw_in cw_45 rfl) (And.intro (fun _ => cw_in cw_46 rfl) (And.intro (fun _ => cw_in cw_47 rfl) (And.intro (fun _ => cw_in cw_48 rfl) (And.intro (fun _ => cw_in cw_49 rfl) (And.intro (fun _ => cw_in cw_50 rfl) (And.intro (fun _ => cw_in cw_51 rfl) (And.intro (fun _ => cw_in cw_52 rfl) (And.intro (fun _ => cw_in cw_53 rfl) (And.intro (fun _ => cw_in cw_54 rfl) (And.intro (fun _ => cw_in cw_55 rfl) (And.intro (fun _ => cw_in cw_56 rfl) (And.intro (fun _ => cw_in cw_57 rfl) (And.intro (fun _ => cw_in cw_58 rfl) (And.intro (fun _ => cw_in cw_59 rfl) (And.intro (fun _ => cw_in cw_60 rfl) (And.intro (fun _ => cw_in cw_61 rfl) (And.intro (fun _ => cw_in cw_62 rfl) (And.intro (fun _ => cw_in cw_63 rfl) (And.intro (fun _ => cw_in cw_64 rfl) (And.intro (fun _ => cw_in cw_65 rfl) (And.intro (fun _ => cw_in cw_66 rfl) (And.intro (fun _ => cw_in cw_67 rfl) (And.intro (fun _ => cw_in cw_68 rfl) (And.intro (fun _ => cw_in cw_69 rfl) (And.intro (fun _ => cw_in cw_70 rfl) (And.intro (fun _ => cw_in cw_71 rfl) (And.intro (fun _ => cw_in cw_72 rfl) (And.intro (fun _ => cw_in cw_73 rfl) (And.intro (fun _ => cw_in cw_74 rfl) (And.intro (fun _ => cw_in cw_75 rfl) (And.intro (fun _ => cw_in cw_76 rfl) (And.intro (fun _ => cw_in cw_77 rfl) (And.intro (fun _ => cw_in cw_78 rfl) (And.intro (fun _ => cw_in cw_79 rfl) (And.intro (fun _ => cw_in cw_80 rfl) (And.intro (fun _ => cw_in cw_81 rfl) (And.intro (fun _ => cw_in cw_82 rfl) (And.intro (fun _ => cw_in cw_83 rfl) (And.intro (fun _ => cw_in cw_84 rfl) (And.intro (fun _ => cw_in cw_85 rfl) (And.intro (fun _ => cw_in cw_86 rfl) (And.intro (fun _ => cw_in cw_87 rfl) (And.intro (fun _ => cw_in cw_88 rfl) (And.intro (fun _ => cw_in cw_89 rfl) (And.intro (fun _ => cw_in cw_90 rfl) (And.intro (fun _ => cw_in cw_91 rfl) (And.intro (fun _ => cw_in cw_92 rfl) (And.intro (fun _ => cw_in cw_93 rfl) (And.intro (fun _ => cw_in cw_94 rfl) (And.intro (fun _ => cw_in cw_95 rfl) (And.intro (fun _ => cw_in cw_96 rfl) (And.intro (fun _ => cw_in cw_97 rfl) (And.intro (fun _ => cw_in cw_98 rfl) (And.intro (fun _ => cw_in cw_99 rfl) (And.intro (fun _ => cw_in cw_100 rfl) (And.intro (fun _ => cw_in cw_101 rfl) (And.intro (fun _ => cw_in cw_102 rfl) (And.intro (fun _ => cw_in cw_103 rfl) (And.intro (fun _ => cw_in cw_104 rfl) (And.intro (fun _ => cw_in cw_105 rfl) (And.intro (fun _ => cw_in cw_106 rfl) (And.intro (fun _ => cw_in cw_107 rfl) (And.intro (fun _ => cw_in cw_108 rfl) (And.intro (fun _ => cw_in cw_109 rfl) (And.intro (fun _ => cw_in cw_110 rfl) (And.intro (fun _ => cw_in cw_111 rfl) (And.intro (fun _ => cw_in cw_112 rfl) (And.intro (fun _ => cw_in cw_113 rfl) (And.intro (fun _ => cw_in cw_114 rfl) (And.intro (fun _ => cw_in cw_115 rfl) (And.intro (fun _ => cw_in cw_116 rfl) (And.intro (fun _ => cw_in cw_117 rfl) (And.intro (fun _ => cw_in cw_118 rfl) (And.intro (fun _ => cw_in cw_119 rfl) (And.intro (fun _ => cw_in cw_120 rfl) (And.intro (fun _ => cw_in cw_121 rfl) (And.intro (fun _ => cw_in cw_122 rfl) (And.intro (fun _ => cw_in cw_123 rfl) (And.intro (fun _ => cw_in cw_124 rfl) (And.intro (fun _ => cw_in cw_125 rfl) (And.intro (fun _ => cw_in cw_126 rfl) (And.intro (fun _ => cw_in cw_127 rfl) (And.intro (fun _ => cw_in cw_128 rfl) (And.intro (fun _ => cw_in cw_129 rfl) (And.intro (fun _ => cw_in cw_130 rfl) (And.intro (fun _ => cw_in cw_131 rfl) (And.intro (fun _ => cw_in cw_132 rfl) (And.intro (fun _ => cw_in cw_133 rfl) (And.intro (fun _ => cw_in cw_134 rfl) (And.intro (fun _ => cw_in cw_135 rfl) (And.intro (fun _ => cw_in cw_136 rfl) (And.intro (fun _ => cw_in cw_137 rfl) (And.intro (fun _ => cw_in cw_138 rfl) (And.intro (fun _ => cw_in cw_139 rfl) (And.intro (fun _ => cw_in cw_140 rfl) (And.intro (fun _ => cw_in cw_141 rfl) (And.intro (fun _ => cw_in cw_142 rfl) (And.intro (fun _ => cw_in cw_143 rfl) (And.intro (fun _ => cw_in cw_144 rfl) (And.intro (fun _ => cw_in cw_145 rfl) (And.intro (fun _ => cw_in cw_146 rfl) (And.intro (fun _ => cw_in cw_147 rfl) (And.intro (fun _ => cw_in cw_148 rfl) (And.intro (fun _ => cw_in cw_149 rfl) (And.intro (fun _ => cw_in cw_150 rfl) (And.intro (fun _ => cw_in cw_151 rfl) (And.intro (fun h => absurd rfl h) (trivial)))))))))))))))))))))))))))))))))))))))))))))))))))))))))))))))))))))))))))))))))))))))))))))))))))))))))))))))))))))))))))))))))))))))))))))))))))))))))
/-- of a method: static or not, the places of its words (static or instance; selects; initialized; code) -/
def mdL : List (Nat × Nat × Nat × Nat × Nat) := [(0, 594, 595, 56, 596), (0, 599, 7, 56, 600), (0, 605, 8, 56, 606), (0, 610, 9, 56, 611), (0, 614, 615, 56, 616), (0, 290, 291, 52, 292), (0, 367, 368, 52, 369), (0, 371, 372, 52, 373), (0, 295, 0, 52, 296), (1, 356, 0, 52, 357), (1, 298, 0, 52, 299), (1, 353, 0, 52, 354), (1, 359, 0, 52, 360), (1, 301, 0, 52, 302), (0, 391, 392, 53, 393), (0, 477, 478, 53, 479), (0, 376, 377, 53, 378), (0, 571, 572, 53, 573), (0, 387, 388, 53, 389), (0, 395, 396, 53, 397), (0, 409, 410, 53, 411), (0, 457, 458, 53, 459), (0, 416, 417, 53, 418), (0, 444, 445, 53, 446), (0, 452, 453, 53, 454), (0, 449, 2, 53, 450), (0, 646, 647, 53, 648), (0, 493, 494, 53, 495), (0, 581, 582, 53, 583), (0, 671, 672, 53, 673), (0, 651, 652, 53, 653), (0, 675, 676, 53, 677), (1, 519, 0, 55, 520), (0, 522, 523, 55, 524), (0, 559, 560, 55, 561), (0, 529, 4, 55, 530), (1, 533, 0, 55, 534), (0, 538, 5, 55, 539), (1, 541, 0, 55, 542), (0, 545, 6, 55, 546), (0, 551, 552, 55, 553), (0, 623, 624, 54, 625), (0, 659, 660, 54, 661), (0, 420, 421, 54, 422), (0, 425, 1, 54, 426), (0, 429, 430, 54, 431), (1, 434, 0, 54, 435), (0, 567, 568, 57, 569), (1, 577, 0, 57, 578), (0, 586, 587, 57, 588), (0, 278, 279, 51, 280), (0, 282, 283, 51, 284), (0, 286, 287, 51, 288), (0, 363, 364, 51, 365), (0, 403, 404, 51, 405), (0, 461, 462, 51, 463), (0, 473, 474, 51, 475), (0, 481, 482, 51, 483), (0, 485, 486, 51, 487), (0, 502, 503, 51, 504), (0, 507, 508, 51, 509), (0, 511, 512, 51, 513), (0, 515, 516, 51, 517), (0, 555, 556, 51, 557), (0, 563, 564, 51, 565), (0, 590, 591, 51, 592), (0, 619, 620, 51, 621), (0, 627, 628, 51, 629), (0, 631, 632, 51, 633), (0, 655, 656, 51, 657), (0, 663, 664, 51, 665), (0, 667, 668, 51, 669), (0, 679, 680, 51, 681), (0, 685, 10, 51, 686), (0, 694, 11, 51, 695), (0, 698, 12, 51, 699), (0, 490, 3, 51, 491), (1, 689, 0, 51, 690), (1, 465, 0, 51, 466), (1, 470, 0, 51, 471), (1, 399, 0, 51, 400), (1, 413, 0, 51, 414), (1, 498, 0, 51, 499), (1, 636, 0, 51, 637), (1, 642, 0, 51, 643), (1, 813, 0, 58, 814), (1, 925, 0, 58, 926), (1, 993, 0, 58, 994), (0, 808, 809, 58, 810), (0, 816, 817, 58, 818), (1, 836, 0, 58, 837), (0, 833, 15, 58, 834), (0, 829, 14, 58, 830), (0, 825, 13, 58, 826), (0, 820, 821, 58, 822), (0, 842, 843, 58, 844), (0, 918, 27, 58, 919), (0, 851, 16, 58, 852), (0, 906, 26, 58, 907), (1, 866, 0, 58, 867), (0, 863, 19, 58, 864), (1, 869, 0, 58, 870), (0, 859, 18, 58, 860), (0, 973, 35, 58, 974), (0, 977, 36, 58, 978), (0, 933, 30, 58, 934), (0, 922, 28, 58, 923), (0, 929, 29, 58, 930), (0, 873, 20, 58, 874), (0, 893, 25, 58, 894), (0, 889, 24, 58, 890), (0, 855, 17, 58, 856), (0, 846, 847, 58, 848), (0, 896, 897, 58, 898), (0, 901, 902, 58, 903), (0, 909, 910, 58, 911), (0, 913, 914, 58, 915), (0, 936, 937, 58, 938), (0, 941, 942, 58, 943), (0, 945, 946, 58, 947), (0, 961, 32, 58, 962), (0, 969, 34, 58, 970), (0, 965, 33, 58, 966), (0, 956, 31, 58, 957), (0, 949, 950, 58, 951), (0, 990, 38, 58, 991), (0, 986, 37, 58, 987), (0, 980, 981, 58, 982), (0, 1005, 40, 58, 1006), (0, 1001, 39, 58, 1002), (0, 996, 997, 58, 998), (0, 1022, 43, 58, 1023), (0, 1017, 42, 58, 1018), (0, 1013, 41, 58, 1014), (0, 1008, 1009, 58, 1010), (0, 1025, 1026, 58, 1027), (0, 1030, 1031, 58, 1032), (0, 881, 22, 58, 882), (0, 877, 21, 58, 878), (0, 885, 23, 58, 886), (0, 1041, 44, 58, 1042), (0, 1034, 1035, 58, 1036), (0, 1048, 1049, 58, 1050), (0, 1052, 1053, 58, 1054), (0, 1065, 46, 58, 1066), (0, 1061, 45, 58, 1062), (0, 1056, 1057, 58, 1058), (0, 1074, 47, 58, 1075), (0, 1079, 48, 58, 1080), (0, 1083, 49, 58, 1084), (0, 1068, 1069, 58, 1070), (1, 437, 0, 64, 438), (0, 0, 0, 0, 0)]
def mD (mi : Nat) : Nat × Nat × Nat × Nat × Nat := mdL.getD mi (9, 0, 0, 0, 0)
def mlT : List (Nat × Nat × Nat × Nat × Nat) := [(8, 13, 50, 1, 277), (8, 18, 51, 0, 281), (8, 23, 52, 0, 285), (6, 75, 5, 0, 289), (1, 19, 8, 2, 293), (1, 34, 10, 3, 297), (1, 41, 13, 1, 300), (1, 44, 11, 2, 352), (1, 30, 9, 1, 355), (1, 38, 12, 3, 358), (8, 27, 53, 0, 362), (6, 79, 6, 0, 366), (1, 23, 7, 0, 370), (1, 27, 5, 0, 374), (6, 82, 16, 2, 375), (2, 54, 13, 1, 382), (2, 64, 18, 0, 386), (2, 73, 14, 1, 390), (2, 77, 19, 1, 394), (8, 31, 54, 2, 402), (6, 87, 14, 1, 406), (6, 106, 19, 1, 407), (6, 110, 20, 1, 408), (6, 113, 22, 1, 415), (6, 116, 43, 2, 419), (4, 26, 44, 3, 423), (6, 120, 45, 2, 428), (4, 42, 43, 2, 432), (4, 46, 46, 4, 433), (4, 50, 151, 1, 436), (6, 123, 23, 1, 443), (2, 87, 25, 1, 447), (6, 126, 24, 1, 451), (2, 90, 151, 1, 455), (6, 129, 21, 1, 456), (8, 36, 55, 2, 460), (6, 132, 78, 1, 464), (6, 135, 79, 1, 469), (8, 40, 56, 1, 472), (6, 138, 15, 1, 476), (8, 44, 57, 2, 480), (8, 48, 58, 0, 484), (6, 144, 76, 0, 488), (6, 151, 27, 0, 492), (2, 95, 22, 1, 496), (8, 52, 59, 2, 501), (6, 154, 18, 0, 505), (8, 56, 60, 2, 506), (8, 60, 61, 2, 510), (8, 64, 62, 3, 514), (6, 157, 32, 2, 518), (6, 161, 33, 3, 521), (3, 43, 22, 1, 525), (3, 47, 151, 1, 526), (3, 52, 35, 4, 527), (3, 56, 36, 3, 532), (3, 60, 37, 0, 536), (3, 86, 38, 3, 540), (3, 90, 39, 1, 543), (6, 165, 40, 1, 550), (8, 69, 63, 1, 554), (6, 168, 34, 1, 558), (8, 73, 64, 1, 562), (6, 172, 47, 2, 566), (5, 18, 17, 1, 570), (5, 27, 151, 1, 575), (5, 33, 48, 3, 576), (5, 41, 18, 0, 579), (5, 44, 28, 0, 580), (2, 102, 20, 1, 584), (6, 176, 49, 1, 585), (8, 77, 65, 2, 589), (6, 177, 0, 1, 593), (0, 32, 1, 2, 597), (0, 50, 21, 1, 601), (0, 39, 14, 1, 602), (0, 46, 2, 3, 603), (0, 60, 3, 3, 608), (6, 180, 4, 2, 613), (8, 81, 66, 3, 618), (6, 190, 41, 3, 622), (8, 86, 67, 0, 626), (8, 90, 68, 3, 630), (6, 194, 17, 1, 634), (6, 197, 83, 1, 635), (6, 204, 84, 2, 641), (6, 208, 26, 1, 645), (6, 212, 28, 0, 649), (6, 215, 30, 0, 650), (8, 94, 69, 0, 654), (6, 218, 42, 1, 658), (8, 98, 70, 0, 662), (8, 102, 71, 1, 666), (6, 224, 29, 0, 670), (6, 227, 31, 0, 674), (8, 106, 72, 0, 678), (6, 235, 73, 1, 683), (6, 251, 54, 2, 687), (6, 244, 77, 2, 688), (6, 238, 74, 1, 692), (6, 241, 75, 1, 696), (6, 248, 71, 1, 700), (8, 17, 88, 1, 807), (7, 73, 85, 3, 812), (8, 22, 89, 0, 815), (8, 26, 94, 0, 819), (7, 100, 93, 0, 823), (7, 97, 92, 1, 827), (7, 93, 91, 1, 831), (7, 80, 90, 1, 835), (8, 30, 95, 0, 841), (8, 35, 112, 2, 845), (7, 158, 97, 1, 849), (7, 161, 111, 2, 853), (7, 140, 102, 1, 857), (7, 126, 100, 0, 861), (7, 122, 99, 2, 865), (7, 129, 101, 3, 868), (7, 143, 108, 1, 871), (7, 146, 138, 1, 875), (7, 239, 137, 3, 879), (7, 149, 139, 1, 883), (7, 152, 110, 2, 887), (7, 155, 109, 1, 891), (8, 39, 113, 2, 895), (8, 43, 114, 1, 900), (7, 166, 98, 1, 904), (8, 47, 115, 2, 908), (8, 51, 116, 0, 912), (7, 169, 96, 0, 916), (7, 173, 106, 0, 920), (7, 133, 86, 2, 924), (7, 176, 107, 1, 927), (7, 137, 105, 1, 931), (8, 55, 117, 2, 935), (8, 59, 118, 2, 940), (8, 63, 119, 2, 944), (8, 68, 124, 3, 948), (7, 205, 123, 3, 954), (7, 187, 120, 1, 959), (7, 190, 122, 3, 963), (7, 182, 121, 3, 967), (7, 194, 103, 1, 971), (7, 198, 104, 1, 975), (8, 72, 127, 1, 979), (7, 216, 126, 1, 984), (7, 211, 125, 1, 988), (7, 208, 87, 1, 992), (8, 76, 130, 1, 995), (7, 222, 129, 1, 999), (7, 219, 128, 1, 1003), (8, 80, 134, 2, 1007), (7, 234, 133, 2, 1011), (7, 231, 132, 0, 1015), (7, 227, 131, 2, 1020), (8, 85, 135, 3, 1024), (8, 89, 136, 0, 1029), (8, 93, 141, 3, 1033), (7, 256, 140, 1, 1039), (8, 97, 142, 0, 1047), (8, 101, 143, 0, 1051), (8, 105, 146, 1, 1055), (7, 271, 145, 1, 1059), (7, 268, 144, 0, 1063), (8, 110, 150, 0, 1067), (7, 280, 147, 1, 1072), (7, 286, 148, 1, 1077), (7, 289, 149, 0, 1081)]
def nlT : List (Nat × Nat × Nat × Nat × Nat) := [(2, 80, 80, 2, 398), (2, 83, 81, 3, 412), (4, 38, 81, 3, 427), (2, 98, 82, 4, 497), (3, 75, 82, 4, 531), (3, 82, 81, 3, 535), (0, 56, 80, 2, 607), (0, 73, 81, 3, 617)]
def chkY (mj na : Nat) : Bool := decide ((mY mj).cls = clN (mO mj)) && (decide ((mY mj).cls ≠ "java/lang/invoke/MethodHandle") && (decide ((mY mj).cls ≠ "java/lang/invoke/VarHandle") && decide ((parseMethodDescriptor (mY mj).desc).map (fun d => d.parameters.length) = some na)))
def chkS (mj : Nat) : Bool := okW (mD mj).2.2.2.1 (.initialized (mY mj).cls) && decide (mj ≠ mLaw ∧ mj < 153)
def chkV (mj : Nat) : Bool := decide ((mD mj).1 = 0) && (okW (mD mj).2.1 (.instanceMethod (mY mj)) && okW (mD mj).2.2.1 (.selects (mY mj).cls (mY mj) (mY mj)))
def chkT (mj : Nat) : Bool := decide ((mD mj).1 = 1) && okW (mD mj).2.1 (.static (mY mj))
def chkL (e : Nat × Nat × Nat × Nat × Nat) : Bool := okW e.2.2.2.2 (.methodLink (clN e.1) e.2.1 (mY e.2.2.1)) && (chkY e.2.2.1 e.2.2.2.1 && (chkS e.2.2.1 && (chkV e.2.2.1 || chkT e.2.2.1)))
def chkN (e : Nat × Nat × Nat × Nat × Nat) : Bool := decide (lw_tbl[e.2.2.2.2]? = some (.methodLinkNest (clN e.1) e.2.1 (mY e.2.2.1) "RiverLessons")) && (chkY e.2.2.1 e.2.2.2.1 && (chkS e.2.2.1 && chkT e.2.2.1))
theorem nlOK : nlT.all chkN = true := by decide +kernel
theorem mlOK_0 : ((mlT.drop 0).take 25).all chkL = true := by decide +kernel
theorem mlOK_1 : ((mlT.drop 25).take 25).all chkL = true := by decide +kernel
theorem mlOK_2 : ((mlT.drop 50).take 25).all chkL = true := by decide +kernel
theorem mlOK_3 : ((mlT.drop 75).take 25).all chkL = true := by decide +kernel
theorem mlOK_4 : ((mlT.drop 100).take 25).all chkL = true := by decide +kernel
theorem mlOK_5 : ((mlT.drop 125).take 25).all chkL = true := by decide +kernel
theorem mlOK_6 : ((mlT.drop 150).take 25).all chkL = true := by decide +kernel
theorem all_cut {α : Type} {f : α → Bool} {l : List α} (n : Nat) (h1 : (l.take n).all f = true) (h2 : (l.drop n).all f = true) : l.all f = true := by
  rw [← List.take_append_drop n l, List.all_append, h1, h2]
  rfl
theorem mlOK : mlT.all chkL = true := (all_cut (l := mlT.drop 0) 25 mlOK_0 (by rw [List.drop_drop]; exact (all_cut (l := mlT.drop 25) 25 mlOK_1 (by rw [List.drop_drop]; exact (all_cut (l := mlT.drop 50) 25 mlOK_2 (by rw [List.drop_drop]; exact (all_cut (l := mlT.drop 75) 25 mlOK_3 (by rw [List.drop_drop]; exact (all_cut (l := mlT.drop 100) 25 mlOK_4 (by rw [List.drop_drop]; exact (all_cut (l := mlT.drop 125) 25 mlOK_5 (by rw [List.drop_drop]; exact (all_cut (l := mlT.drop 150) 25 mlOK_6 (by rw [List.drop_drop]; exact (rfl : (mlT.drop 175).all chkL = true)))))))))))))))
def prT : List (Nat × Nat × Nat) := [(1, 49, 903), (1, 54, 904), (2, 43, 900), (2, 58, 901), (6, 264, 900), (4, 56, 901), (6, 259, 903), (6, 269, 901), (3, 94, 902), (2, 67, 902), (0, 64, 902)]
def lenOf : Instr → Nat
  | .bipush _ => 2
  | .sipush _ => 3
  | .ldc _ => 2
  | .ldc_w _ => 3
  | .ldc2_w _ => 3
  | .iload _ => 2
  | .lload _ => 2
  | .aload _ => 2
  | .istore _ => 2
  | .lstore _ => 2
  | .astore _ => 2
  | .iinc _ _ => 3
  | .if_icmp _ _ => 3
  | .ifCond _ _ => 3
  | .goto _ => 3
  | .getfield _ => 3
  | .putfield _ => 3
  | .invokevirtual _ => 3
  | .invokestatic _ => 3
  | .invokespecial _ => 3
  | .new _ => 3
  | .tableswitch _ _ _ _ => 0
  | .lookupswitch _ _ => 0
  | _ => 1
def tgo (pc : Nat) (o : Int) (tg : List Nat) : Bool := match tg with
  | [t] => decide ((pc : Int) + o = (t : Int))
  | _ => false
def chkI (ow pc : Nat) (i : Instr) (tg : List Nat) : Bool := match i with
  | .goto o => tgo pc o tg
  | .ifCond _ o => tgo pc o tg
  | .if_icmp _ o => tgo pc o tg
  | .tableswitch df lo hi os => decide (tg.map (fun (t : Nat) => (t : Int) - (pc : Int)) = df :: os.toList) && (decide (lo ≤ hi))
  | .lookupswitch _ ps => (ps.toList.zip (ps.toList.drop 1)).all (fun (a, next) => a.1 < next.1)
  | .getfield ix => flT.any (fun e => Nat.beq e.1 ow && (Nat.beq e.2.1 ix && decide (tg = [e.2.2.1, e.2.2.2.1])))
  | .putfield ix => flT.any (fun e => Nat.beq e.1 ow && (Nat.beq e.2.1 ix && decide (tg = [e.2.2.1, e.2.2.2.1])))
  | .invokevirtual ix => mlT.any (fun e => Nat.beq e.1 ow && (Nat.beq e.2.1 ix && (decide (tg = [e.2.2.1, e.2.2.2.1]) && Nat.beq (mD e.2.2.1).1 0))) || prT.any (fun e => Nat.beq e.1 ow && (Nat.beq e.2.1 ix && decide (tg.head? = some e.2.2)))
  | .invokestatic ix => (mlT ++ nlT).any (fun e => Nat.beq e.1 ow && (Nat.beq e.2.1 ix && (decide (tg = [e.2.2.1, e.2.2.2.1]) && Nat.beq (mD e.2.2.1).1 1))) || prT.any (fun e => Nat.beq e.1 ow && (Nat.beq e.2.1 ix && decide (tg.head? = some e.2.2)))
  | _ => true
def chkE (mi : Nat) (e : mEnt) : Bool := (if lenOf e.2.1 = 0 then decide (decode (mC mi) e.1 = .ok (e.2.1, e.2.2.1 - e.1)) else decide (decode (mC mi) e.1 = .ok (e.2.1, lenOf e.2.1)) && Nat.beq e.2.2.1 (e.1 + lenOf e.2.1)) && chkI (mO mi) e.1 e.2.1 e.2.2.2
def chkM (mi : Nat) (t : List mEnt) : Bool := t.all (chkE mi)
