/-! THE METHODS' ENTRIES -/
theorem e_0 {sc : Nat × (Int → Int)} {h : zH} {Q : Option zV → zH → Prop} {a0 : zV} : zca sc 0 [a0] h Q = zwp sc 0 0 [some a0] [] h Q := rfl
theorem e_1 {sc : Nat × (Int → Int)} {h : zH} {Q : Option zV → zH → Prop} {a0 : zV} : zca sc 1 [a0] h Q = zwp sc 1 0 [some a0] [] h Q := rfl
theorem e_2 {sc : Nat × (Int → Int)} {h : zH} {Q : Option zV → zH → Prop} {a0 a1 : zV} : zca sc 2 [a0, a1] h Q = zwp sc 2 0 [some a0, some a1] [] h Q := rfl
theorem e_3 {sc : Nat × (Int → Int)} {h : zH} {Q : Option zV → zH → Prop} {a0 : zV} : zca sc 3 [a0] h Q = zwp sc 3 0 [some a0] [] h Q := rfl
theorem e_4 {sc : Nat × (Int → Int)} {h : zH} {Q : Option zV → zH → Prop} {a0 : zV} : zca sc 4 [a0] h Q = zwp sc 4 0 [some a0] [] h Q := rfl
theorem e_5 {sc : Nat × (Int → Int)} {h : zH} {Q : Option zV → zH → Prop} {a0 a1 : zV} : zca sc 5 [a0, a1] h Q = zwp sc 5 0 [some a0, some a1] [] h Q := rfl
theorem e_6 {sc : Nat × (Int → Int)} {h : zH} {Q : Option zV → zH → Prop} {a0 a1 a2 : zV} : zca sc 6 [a0, a1, a2] h Q = zwp sc 6 0 [some a0, some a1, some a2, none] [] h Q := rfl
theorem e_7 {sc : Nat × (Int → Int)} {h : zH} {Q : Option zV → zH → Prop} {a0 a1 : zV} : zca sc 7 [a0, a1] h Q = zwp sc 7 0 [some a0, some a1, none] [] h Q := rfl
theorem e_8 {sc : Nat × (Int → Int)} {h : zH} {Q : Option zV → zH → Prop} {a0 : zV} : zca sc 8 [a0] h Q = zwp sc 8 0 [some a0, none, none] [] h Q := rfl
theorem e_9 {sc : Nat × (Int → Int)} {h : zH} {Q : Option zV → zH → Prop} {a0 : zV} : zca sc 9 [a0] h Q = zwp sc 9 0 [some a0, none] [] h Q := rfl
theorem e_10 {sc : Nat × (Int → Int)} {h : zH} {Q : Option zV → zH → Prop} {a0 : zV} : zca sc 10 [a0] h Q = zwp sc 10 0 [some a0] [] h Q := rfl
theorem e_11 {sc : Nat × (Int → Int)} {h : zH} {Q : Option zV → zH → Prop} {a0 : zV} : zca sc 11 [a0] h Q = zwp sc 11 0 [some a0] [] h Q := rfl
theorem e_12 {sc : Nat × (Int → Int)} {h : zH} {Q : Option zV → zH → Prop} {a0 a1 : zV} : zca sc 12 [a0, a1] h Q = zwp sc 12 0 [some a0, some a1, none] [] h Q := rfl
theorem e_13 {sc : Nat × (Int → Int)} {h : zH} {Q : Option zV → zH → Prop} {a0 a1 : zV} : zca sc 13 [a0, a1] h Q = zwp sc 13 0 [some a0, some a1, none] [] h Q := rfl
theorem e_14 {sc : Nat × (Int → Int)} {h : zH} {Q : Option zV → zH → Prop} {a0 : zV} : zca sc 14 [a0] h Q = zwp sc 14 0 [some a0] [] h Q := rfl
theorem e_15 {sc : Nat × (Int → Int)} {h : zH} {Q : Option zV → zH → Prop} {a0 : zV} : zca sc 15 [a0] h Q = zwp sc 15 0 [some a0] [] h Q := rfl
theorem e_16 {sc : Nat × (Int → Int)} {h : zH} {Q : Option zV → zH → Prop} {a0 a1 : zV} : zca sc 16 [a0, a1] h Q = zwp sc 16 0 [some a0, some a1] [] h Q := rfl
theorem e_17 {sc : Nat × (Int → Int)} {h : zH} {Q : Option zV → zH → Prop} {a0 a1 : zV} : zca sc 17 [a0, a1] h Q = zwp sc 17 0 [some a0, some a1] [] h Q := rfl
theorem e_18 {sc : Nat × (Int → Int)} {h : zH} {Q : Option zV → zH → Prop} {a0 a1 : zV} : zca sc 18 [a0, a1] h Q = zwp sc 18 0 [some a0, some a1, none] [] h Q := rfl
theorem e_19 {sc : Nat × (Int → Int)} {h : zH} {Q : Option zV → zH → Prop} {a0 a1 : zV} : zca sc 19 [a0, a1] h Q = zwp sc 19 0 [some a0, some a1, none, none] [] h Q := rfl
theorem e_20 {sc : Nat × (Int → Int)} {h : zH} {Q : Option zV → zH → Prop} {a0 a1 : zV} : zca sc 20 [a0, a1] h Q = zwp sc 20 0 [some a0, some a1] [] h Q := rfl
theorem e_21 {sc : Nat × (Int → Int)} {h : zH} {Q : Option zV → zH → Prop} {a0 a1 : zV} : zca sc 21 [a0, a1] h Q = zwp sc 21 0 [some a0, some a1, none, none] [] h Q := rfl
theorem e_22 {sc : Nat × (Int → Int)} {h : zH} {Q : Option zV → zH → Prop} {a0 a1 : zV} : zca sc 22 [a0, a1] h Q = zwp sc 22 0 [some a0, some a1, none, none] [] h Q := rfl
theorem e_23 {sc : Nat × (Int → Int)} {h : zH} {Q : Option zV → zH → Prop} {a0 : zV} : zca sc 23 [a0] h Q = zwp sc 23 0 [some a0, none, none] [] h Q := rfl
theorem e_24 {sc : Nat × (Int → Int)} {h : zH} {Q : Option zV → zH → Prop} {a0 : zV} : zca sc 24 [a0] h Q = zwp sc 24 0 [some a0] [] h Q := rfl
theorem e_25 {sc : Nat × (Int → Int)} {h : zH} {Q : Option zV → zH → Prop} {a0 a1 : zV} : zca sc 25 [a0, a1] h Q = zwp sc 25 0 [some a0, some a1, none] [] h Q := rfl
theorem e_26 {sc : Nat × (Int → Int)} {h : zH} {Q : Option zV → zH → Prop} {a0 a1 a2 a3 : zV} : zca sc 26 [a0, a1, a2, a3] h Q = zwp sc 26 0 [some a0, some a1, some a2, some a3] [] h Q := rfl
theorem e_27 {sc : Nat × (Int → Int)} {h : zH} {Q : Option zV → zH → Prop} {a0 a1 : zV} : zca sc 27 [a0, a1] h Q = zwp sc 27 0 [some a0, some a1, none] [] h Q := rfl
theorem e_28 {sc : Nat × (Int → Int)} {h : zH} {Q : Option zV → zH → Prop} {a0 a1 a2 : zV} : zca sc 28 [a0, a1, a2] h Q = zwp sc 28 0 [some a0, some a1, some a2, none, none] [] h Q := rfl
theorem e_29 {sc : Nat × (Int → Int)} {h : zH} {Q : Option zV → zH → Prop} {a0 : zV} : zca sc 29 [a0] h Q = zwp sc 29 0 [some a0, none] [] h Q := rfl
theorem e_30 {sc : Nat × (Int → Int)} {h : zH} {Q : Option zV → zH → Prop} {a0 a1 : zV} : zca sc 30 [a0, a1] h Q = zwp sc 30 0 [some a0, some a1, none] [] h Q := rfl
theorem e_31 {sc : Nat × (Int → Int)} {h : zH} {Q : Option zV → zH → Prop} {a0 a1 a2 : zV} : zca sc 31 [a0, a1, a2] h Q = zwp sc 31 0 [some a0, some a1, some a2] [] h Q := rfl
theorem e_32 {sc : Nat × (Int → Int)} {h : zH} {Q : Option zV → zH → Prop} {a0 a1 a2 : zV} : zca sc 32 [a0, a1, a2] h Q = zwp sc 32 0 [some a0, some a1, some a2, none, none, none] [] h Q := rfl
theorem e_33 {sc : Nat × (Int → Int)} {h : zH} {Q : Option zV → zH → Prop} {a0 : zV} : zca sc 33 [a0] h Q = zwp sc 33 0 [some a0] [] h Q := rfl
theorem e_34 {sc : Nat × (Int → Int)} {h : zH} {Q : Option zV → zH → Prop} {a0 : zV} : zca sc 34 [a0] h Q = zwp sc 34 0 [some a0] [] h Q := rfl
theorem e_35 {sc : Nat × (Int → Int)} {h : zH} {Q : Option zV → zH → Prop} {a0 a1 a2 : zV} : zca sc 35 [a0, a1, a2] h Q = zwp sc 35 0 [some a0, some a1, some a2, none, none, none] [] h Q := rfl
theorem e_36 {sc : Nat × (Int → Int)} {h : zH} {Q : Option zV → zH → Prop} {a0 a1 : zV} : zca sc 36 [a0, a1] h Q = zwp sc 36 0 [some a0, some a1, none] [] h Q := rfl
theorem e_37 {sc : Nat × (Int → Int)} {h : zH} {Q : Option zV → zH → Prop} {a0 : zV} : zca sc 37 [a0] h Q = zwp sc 37 0 [some a0, none, none] [] h Q := rfl
theorem e_38 {sc : Nat × (Int → Int)} {h : zH} {Q : Option zV → zH → Prop} {a0 a1 : zV} : zca sc 38 [a0, a1] h Q = zwp sc 38 0 [some a0, some a1, none] [] h Q := rfl
theorem e_39 {sc : Nat × (Int → Int)} {h : zH} {Q : Option zV → zH → Prop} {a0 a1 : zV} : zca sc 39 [a0, a1] h Q = zwp sc 39 0 [some a0, some a1, none] [] h Q := rfl
theorem e_40 {sc : Nat × (Int → Int)} {h : zH} {Q : Option zV → zH → Prop} {a0 a1 : zV} : zca sc 40 [a0, a1] h Q = zwp sc 40 0 [some a0, some a1, none] [] h Q := rfl
theorem e_41 {sc : Nat × (Int → Int)} {h : zH} {Q : Option zV → zH → Prop} {a0 : zV} : zca sc 41 [a0] h Q = zwp sc 41 0 [some a0, none, none, none] [] h Q := rfl
theorem e_42 {sc : Nat × (Int → Int)} {h : zH} {Q : Option zV → zH → Prop} {a0 : zV} : zca sc 42 [a0] h Q = zwp sc 42 0 [some a0] [] h Q := rfl
theorem e_43 {sc : Nat × (Int → Int)} {h : zH} {Q : Option zV → zH → Prop} {a0 : zV} : zca sc 43 [a0] h Q = zwp sc 43 0 [some a0] [] h Q := rfl
theorem e_44 {sc : Nat × (Int → Int)} {h : zH} {Q : Option zV → zH → Prop} {a0 : zV} : zca sc 44 [a0] h Q = zwp sc 44 0 [some a0] [] h Q := rfl
theorem e_45 {sc : Nat × (Int → Int)} {h : zH} {Q : Option zV → zH → Prop} {a0 a1 : zV} : zca sc 45 [a0, a1] h Q = zwp sc 45 0 [some a0, some a1, none] [] h Q := rfl
theorem e_46 {sc : Nat × (Int → Int)} {h : zH} {Q : Option zV → zH → Prop} {a0 a1 : zV} : zca sc 46 [a0, a1] h Q = zwp sc 46 0 [some a0, some a1] [] h Q := rfl
theorem e_47 {sc : Nat × (Int → Int)} {h : zH} {Q : Option zV → zH → Prop} {a0 a1 a2 : zV} : zca sc 47 [a0, a1, a2] h Q = zwp sc 47 0 [some a0, some a1, some a2, none, none] [] h Q := rfl
theorem e_48 {sc : Nat × (Int → Int)} {h : zH} {Q : Option zV → zH → Prop} {a0 a1 a2 : zV} : zca sc 48 [a0, a1, a2] h Q = zwp sc 48 0 [some a0, some a1, some a2] [] h Q := rfl
theorem e_49 {sc : Nat × (Int → Int)} {h : zH} {Q : Option zV → zH → Prop} {a0 a1 : zV} : zca sc 49 [a0, a1] h Q = zwp sc 49 0 [some a0, some a1, none, none] [] h Q := rfl
theorem e_50 {sc : Nat × (Int → Int)} {h : zH} {Q : Option zV → zH → Prop} {a0 a1 a2 : zV} : zca sc 50 [a0, a1, a2] h Q = zwp sc 50 0 [some a0, some a1, some a2, none, none] [] h Q := rfl
theorem e_51 {sc : Nat × (Int → Int)} {h : zH} {Q : Option zV → zH → Prop} {a0 a1 a2 : zV} : zca sc 51 [a0, a1, a2] h Q = zwp sc 51 0 [some a0, some a1, some a2, none, none, none] [] h Q := rfl
theorem e_52 {sc : Nat × (Int → Int)} {h : zH} {Q : Option zV → zH → Prop} {a0 a1 a2 : zV} : zca sc 52 [a0, a1, a2] h Q = zwp sc 52 0 [some a0, some a1, some a2, none] [] h Q := rfl
theorem e_53 {sc : Nat × (Int → Int)} {h : zH} {Q : Option zV → zH → Prop} {a0 a1 a2 : zV} : zca sc 53 [a0, a1, a2] h Q = zwp sc 53 0 [some a0, some a1, some a2, none] [] h Q := rfl
theorem e_54 {sc : Nat × (Int → Int)} {h : zH} {Q : Option zV → zH → Prop} {a0 a1 : zV} : zca sc 54 [a0, a1] h Q = zwp sc 54 0 [some a0, some a1, none, none] [] h Q := rfl
theorem e_55 {sc : Nat × (Int → Int)} {h : zH} {Q : Option zV → zH → Prop} {a0 a1 : zV} : zca sc 55 [a0, a1] h Q = zwp sc 55 0 [some a0, some a1, none, none] [] h Q := rfl
theorem e_56 {sc : Nat × (Int → Int)} {h : zH} {Q : Option zV → zH → Prop} {a0 a1 : zV} : zca sc 56 [a0, a1] h Q = zwp sc 56 0 [some a0, some a1, none, none, none] [] h Q := rfl
theorem e_57 {sc : Nat × (Int → Int)} {h : zH} {Q : Option zV → zH → Prop} {a0 a1 : zV} : zca sc 57 [a0, a1] h Q = zwp sc 57 0 [some a0, some a1, none, none, none, none] [] h Q := rfl
theorem e_58 {sc : Nat × (Int → Int)} {h : zH} {Q : Option zV → zH → Prop} {a0 a1 : zV} : zca sc 58 [a0, a1] h Q = zwp sc 58 0 [some a0, some a1] [] h Q := rfl
theorem e_59 {sc : Nat × (Int → Int)} {h : zH} {Q : Option zV → zH → Prop} {a0 a1 : zV} : zca sc 59 [a0, a1] h Q = zwp sc 59 0 [some a0, some a1] [] h Q := rfl
theorem e_60 {sc : Nat × (Int → Int)} {h : zH} {Q : Option zV → zH → Prop} {a0 a1 : zV} : zca sc 60 [a0, a1] h Q = zwp sc 60 0 [some a0, some a1, none, none, none] [] h Q := rfl
theorem e_61 {sc : Nat × (Int → Int)} {h : zH} {Q : Option zV → zH → Prop} {a0 a1 a2 a3 : zV} : zca sc 61 [a0, a1, a2, a3] h Q = zwp sc 61 0 [some a0, some a1, some a2, some a3, none, none] [] h Q := rfl
theorem e_62 {sc : Nat × (Int → Int)} {h : zH} {Q : Option zV → zH → Prop} {a0 a1 a2 : zV} : zca sc 62 [a0, a1, a2] h Q = zwp sc 62 0 [some a0, some a1, some a2, none] [] h Q := rfl
theorem e_63 {sc : Nat × (Int → Int)} {h : zH} {Q : Option zV → zH → Prop} {a0 a1 a2 a3 : zV} : zca sc 63 [a0, a1, a2, a3] h Q = zwp sc 63 0 [some a0, some a1, some a2, some a3] [] h Q := rfl
theorem e_64 {sc : Nat × (Int → Int)} {h : zH} {Q : Option zV → zH → Prop} {a0 : zV} : zca sc 64 [a0] h Q = zwp sc 64 0 [some a0] [] h Q := rfl
theorem e_65 {sc : Nat × (Int → Int)} {h : zH} {Q : Option zV → zH → Prop} {a0 a1 : zV} : zca sc 65 [a0, a1] h Q = zwp sc 65 0 [some a0, some a1] [] h Q := rfl
theorem e_66 {sc : Nat × (Int → Int)} {h : zH} {Q : Option zV → zH → Prop} {a0 : zV} : zca sc 66 [a0] h Q = zwp sc 66 0 [some a0] [] h Q := rfl
theorem e_67 {sc : Nat × (Int → Int)} {h : zH} {Q : Option zV → zH → Prop} {a0 : zV} : zca sc 67 [a0] h Q = zwp sc 67 0 [some a0, none] [] h Q := rfl
theorem e_68 {sc : Nat × (Int → Int)} {h : zH} {Q : Option zV → zH → Prop} {a0 a1 : zV} : zca sc 68 [a0, a1] h Q = zwp sc 68 0 [some a0, some a1] [] h Q := rfl
theorem e_69 {sc : Nat × (Int → Int)} {h : zH} {Q : Option zV → zH → Prop} {a0 : zV} : zca sc 69 [a0] h Q = zwp sc 69 0 [some a0, none] [] h Q := rfl
theorem e_70 {sc : Nat × (Int → Int)} {h : zH} {Q : Option zV → zH → Prop} {a0 a1 : zV} : zca sc 70 [a0, a1] h Q = zwp sc 70 0 [some a0, some a1, none, none] [] h Q := rfl
theorem e_71 {sc : Nat × (Int → Int)} {h : zH} {Q : Option zV → zH → Prop} {a0 : zV} : zca sc 71 [a0] h Q = zwp sc 71 0 [some a0] [] h Q := rfl
theorem e_72 {sc : Nat × (Int → Int)} {h : zH} {Q : Option zV → zH → Prop} {a0 : zV} : zca sc 72 [a0] h Q = zwp sc 72 0 [some a0] [] h Q := rfl
theorem e_73 {sc : Nat × (Int → Int)} {h : zH} {Q : Option zV → zH → Prop} {a0 a1 : zV} : zca sc 73 [a0, a1] h Q = zwp sc 73 0 [some a0, some a1] [] h Q := rfl
theorem e_74 {sc : Nat × (Int → Int)} {h : zH} {Q : Option zV → zH → Prop} {a0 a1 a2 : zV} : zca sc 74 [a0, a1, a2] h Q = zwp sc 74 0 [some a0, some a1, some a2, none] [] h Q := rfl
theorem e_75 {sc : Nat × (Int → Int)} {h : zH} {Q : Option zV → zH → Prop} {a0 a1 a2 a3 : zV} : zca sc 75 [a0, a1, a2, a3] h Q = zwp sc 75 0 [some a0, some a1, some a2, some a3, none] [] h Q := rfl
theorem e_76 {sc : Nat × (Int → Int)} {h : zH} {Q : Option zV → zH → Prop} {a0 a1 a2 a3 a4 : zV} : zca sc 76 [a0, a1, a2, a3, a4] h Q = zwp sc 76 0 [some a0, some a1, some a2, some a3, some a4, none, none] [] h Q := rfl
theorem e_77 {sc : Nat × (Int → Int)} {h : zH} {Q : Option zV → zH → Prop} {a0 a1 a2 : zV} : zca sc 77 [a0, a1, a2] h Q = zwp sc 77 0 [some a0, some a1, some a2, none] [] h Q := rfl
theorem e_78 {sc : Nat × (Int → Int)} {h : zH} {Q : Option zV → zH → Prop} {a0 a1 : zV} : zca sc 78 [a0, a1] h Q = zwp sc 78 0 [some a0, some a1, none] [] h Q := rfl
theorem e_79 {sc : Nat × (Int → Int)} {h : zH} {Q : Option zV → zH → Prop} {a0 a1 a2 : zV} : zca sc 79 [a0, a1, a2] h Q = zwp sc 79 0 [some a0, some a1, some a2, none, none, none, none] [] h Q := rfl
theorem e_80 {sc : Nat × (Int → Int)} {h : zH} {Q : Option zV → zH → Prop} {a0 : zV} : zca sc 80 [a0] h Q = zwp sc 80 0 [some a0, none] [] h Q := rfl
theorem e_81 {sc : Nat × (Int → Int)} {h : zH} {Q : Option zV → zH → Prop} {a0 a1 : zV} : zca sc 81 [a0, a1] h Q = zwp sc 81 0 [some a0, some a1, none] [] h Q := rfl
theorem e_82 {sc : Nat × (Int → Int)} {h : zH} {Q : Option zV → zH → Prop} {a0 a1 : zV} : zca sc 82 [a0, a1] h Q = zwp sc 82 0 [some a0, some a1, none] [] h Q := rfl
theorem e_83 {sc : Nat × (Int → Int)} {h : zH} {Q : Option zV → zH → Prop} {a0 : zV} : zca sc 83 [a0] h Q = zwp sc 83 0 [some a0] [] h Q := rfl
theorem e_84 {sc : Nat × (Int → Int)} {h : zH} {Q : Option zV → zH → Prop} {a0 a1 : zV} : zca sc 84 [a0, a1] h Q = zwp sc 84 0 [some a0, some a1] [] h Q := rfl
theorem e_85 {sc : Nat × (Int → Int)} {h : zH} {Q : Option zV → zH → Prop} {a0 : zV} : zca sc 85 [a0] h Q = zwp sc 85 0 [some a0, none] [] h Q := rfl
theorem e_86 {sc : Nat × (Int → Int)} {h : zH} {Q : Option zV → zH → Prop} {a0 : zV} : zca sc 86 [a0] h Q = zwp sc 86 0 [some a0, none, none] [] h Q := rfl
theorem e_87 {sc : Nat × (Int → Int)} {h : zH} {Q : Option zV → zH → Prop} {a0 a1 : zV} : zca sc 87 [a0, a1] h Q = zwp sc 87 0 [some a0, some a1] [] h Q := rfl
theorem e_88 {sc : Nat × (Int → Int)} {h : zH} {Q : Option zV → zH → Prop} {a0 a1 : zV} : zca sc 88 [a0, a1] h Q = zwp sc 88 0 [some a0, some a1] [] h Q := rfl
theorem e_89 {sc : Nat × (Int → Int)} {h : zH} {Q : Option zV → zH → Prop} {a0 a1 : zV} : zca sc 89 [a0, a1] h Q = zwp sc 89 0 [some a0, some a1, none, none, none] [] h Q := rfl
theorem e_90 {sc : Nat × (Int → Int)} {h : zH} {Q : Option zV → zH → Prop} {a0 a1 a2 : zV} : zca sc 90 [a0, a1, a2] h Q = zwp sc 90 0 [some a0, some a1, some a2, none, none] [] h Q := rfl
theorem e_91 {sc : Nat × (Int → Int)} {h : zH} {Q : Option zV → zH → Prop} {a0 : zV} : zca sc 91 [a0] h Q = zwp sc 91 0 [some a0, none, none, none, none, none, none, none, none, none, none] [] h Q := rfl
theorem e_92 {sc : Nat × (Int → Int)} {h : zH} {Q : Option zV → zH → Prop} {a0 : zV} : zca sc 92 [a0] h Q = zwp sc 92 0 [some a0, none, none] [] h Q := rfl
theorem e_93 {sc : Nat × (Int → Int)} {h : zH} {Q : Option zV → zH → Prop} {a0 a1 a2 : zV} : zca sc 93 [a0, a1, a2] h Q = zwp sc 93 0 [some a0, some a1, some a2, none, none, none, none, none, none] [] h Q := rfl
theorem e_94 {sc : Nat × (Int → Int)} {h : zH} {Q : Option zV → zH → Prop} {a0 : zV} : zca sc 94 [a0] h Q = zwp sc 94 0 [some a0, none, none, none, none, none, none, none, none, none] [] h Q := rfl
theorem e_95 {sc : Nat × (Int → Int)} {h : zH} {Q : Option zV → zH → Prop} {a0 a1 : zV} : zca sc 95 [a0, a1] h Q = zwp sc 95 0 [some a0, some a1, none, none] [] h Q := rfl
theorem e_96 {sc : Nat × (Int → Int)} {h : zH} {Q : Option zV → zH → Prop} {a0 : zV} : zca sc 96 [a0] h Q = zwp sc 96 0 [some a0, none, none, none, none, none, none, none] [] h Q := rfl
