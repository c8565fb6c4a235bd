
abbrev offL (a : Nat → Nat) (g : Nat → ClassId) : va_W := [((a 0), .inr (13, [.ref (a 1), .ref (a 4), .ref (a 5), .ref (a 6), .ref (a 8), .ref (a 9), .ref (a 12), .ref (a 16), .ref (a 22), .ref (a 43), .ref (a 64), .ref (a 69), .int 0])),
  ((a 1), .inr (2, [.ref (a 2), .ref (a 3), .int 0])),
  ((a 2), .inl (g 0, 200, .inl (fun _ => 0))),
  ((a 3), .inl (g 0, 200, .inl (fun _ => 0))),
  ((a 4), .inl (g 1, 8, .inr (.inr (.inr (.inr (va_up (va_up (va_up (va_up (va_up (va_up (va_up (va_up (fun _ => none) 0 (some (a 108))) 1 (some (a 109))) 2 (some (a 110))) 3 (some (a 111))) 4 (some (a 112))) 5 (some (a 113))) 6 (some (a 114))) 7 (some (a 115)))))))),
  ((a 5), .inl (g 1, 8, .inr (.inr (.inr (.inr (va_up (va_up (va_up (va_up (va_up (va_up (va_up (va_up (fun _ => none) 0 (some (a 124))) 1 (some (a 125))) 2 (some (a 126))) 3 (some (a 127))) 4 (some (a 128))) 5 (some (a 129))) 6 (some (a 130))) 7 (some (a 131)))))))),
  ((a 6), .inr (11, [.ref (a 7), .int 0])),
  ((a 7), .inl (g 0, 100, .inl (fun _ => 0))),
  ((a 8), .inr (10, [.int 0, .int 1, .int 4, .int 0, .int 2])),
  ((a 9), .inr (8, [.ref (a 10), .ref (a 11), .int 0])),
  ((a 10), .inl (g 0, 50, .inl (fun _ => 0))),
  ((a 11), .inl (g 0, 50, .inl (fun _ => 0))),
  ((a 12), .inr (9, [.ref (a 13), .ref (a 14), .ref (a 15), .int 0, .int 0])),
  ((a 13), .inl (g 0, 100, .inl (fun _ => 0))),
  ((a 14), .inl (g 0, 200, .inl (fun _ => 0))),
  ((a 15), .inl (g 0, 200, .inl (fun _ => 0))),
  ((a 16), .inr (6, [.ref (a 17), .ref (a 20), .ref (a 21), .int 0, .int 0, .int 0, .int 0, .int 0])),
  ((a 17), .inr (5, [.ref (a 18), .ref (a 19), .int 0, .int 2, .int 0, .int 0])),
  ((a 18), .inl (g 0, 200, .inl (fun _ => 0))),
  ((a 19), .inl (g 0, 6, .inl (fun _ => 0))),
  ((a 20), .inl (g 0, 200, .inl (fun _ => 0))),
  ((a 21), .inl (g 0, 200, .inl (fun _ => 0))),
  ((a 22), .inr (4, [.ref (a 23), .ref (a 26), .ref (a 29), .ref (a 30), .int 0, .ref (a 31), .ref (a 35), .ref (a 39), .int 0, .int 0, .int 0, .int 0, .int 0, .int 0, .int 0])),
  ((a 23), .inr (8, [.ref (a 24), .ref (a 25), .int 0])),
  ((a 24), .inl (g 0, 50, .inl (fun _ => 0))),
  ((a 25), .inl (g 0, 50, .inl (fun _ => 0))),
  ((a 26), .inr (5, [.ref (a 27), .ref (a 28), .int 0, .int 2, .int 0, .int 0])),
  ((a 27), .inl (g 0, 200, .inl (fun _ => 0))),
  ((a 28), .inl (g 0, 6, .inl (fun _ => 0))),
  ((a 29), .inl (g 0, 6, .inl (fun _ => 0))),
  ((a 30), .inl (g 0, 6, .inl (fun _ => 0))),
  ((a 31), .inr (9, [.ref (a 32), .ref (a 33), .ref (a 34), .int 0, .int 0])),
  ((a 32), .inl (g 0, 100, .inl (fun _ => 0))),
  ((a 33), .inl (g 0, 200, .inl (fun _ => 0))),
  ((a 34), .inl (g 0, 200, .inl (fun _ => 0))),
  ((a 35), .inr (9, [.ref (a 36), .ref (a 37), .ref (a 38), .int 0, .int 0])),
  ((a 36), .inl (g 0, 100, .inl (fun _ => 0))),
  ((a 37), .inl (g 0, 200, .inl (fun _ => 0))),
  ((a 38), .inl (g 0, 200, .inl (fun _ => 0))),
  ((a 39), .inr (9, [.ref (a 40), .ref (a 41), .ref (a 42), .int 0, .int 0])),
  ((a 40), .inl (g 0, 100, .inl (fun _ => 0))),
  ((a 41), .inl (g 0, 200, .inl (fun _ => 0))),
  ((a 42), .inl (g 0, 200, .inl (fun _ => 0))),
  ((a 43), .inr (4, [.ref (a 44), .ref (a 47), .ref (a 50), .ref (a 51), .int 0, .ref (a 52), .ref (a 56), .ref (a 60), .int 0, .int 0, .int 0, .int 0, .int 0, .int 0, .int 0])),
  ((a 44), .inr (8, [.ref (a 45), .ref (a 46), .int 0])),
  ((a 45), .inl (g 0, 50, .inl (fun _ => 0))),
  ((a 46), .inl (g 0, 50, .inl (fun _ => 0))),
  ((a 47), .inr (5, [.ref (a 48), .ref (a 49), .int 0, .int 2, .int 0, .int 0])),
  ((a 48), .inl (g 0, 200, .inl (fun _ => 0))),
  ((a 49), .inl (g 0, 6, .inl (fun _ => 0))),
  ((a 50), .inl (g 0, 6, .inl (fun _ => 0))),
  ((a 51), .inl (g 0, 6, .inl (fun _ => 0))),
  ((a 52), .inr (9, [.ref (a 53), .ref (a 54), .ref (a 55), .int 0, .int 0])),
  ((a 53), .inl (g 0, 100, .inl (fun _ => 0))),
  ((a 54), .inl (g 0, 200, .inl (fun _ => 0))),
  ((a 55), .inl (g 0, 200, .inl (fun _ => 0))),
  ((a 56), .inr (9, [.ref (a 57), .ref (a 58), .ref (a 59), .int 0, .int 0])),
  ((a 57), .inl (g 0, 100, .inl (fun _ => 0))),
  ((a 58), .inl (g 0, 200, .inl (fun _ => 0))),
  ((a 59), .inl (g 0, 200, .inl (fun _ => 0))),
  ((a 60), .inr (9, [.ref (a 61), .ref (a 62), .ref (a 63), .int 0, .int 0])),
  ((a 61), .inl (g 0, 100, .inl (fun _ => 0))),
  ((a 62), .inl (g 0, 200, .inl (fun _ => 0))),
  ((a 63), .inl (g 0, 200, .inl (fun _ => 0))),
  ((a 64), .inr (7, [.ref (a 65), .ref (a 67), .ref (a 68), .int 0, .int 0, .int 0, .int 0, .int 0, .int 0, .int 0, .int 0, .int 0, .int (-1)])),
  ((a 65), .inr (12, [.ref (a 66), .int 0])),
  ((a 66), .inl (g 0, 160, .inl (fun _ => 0))),
  ((a 67), .inl (g 0, 3, .inl (fun _ => 0))),
  ((a 68), .inr (10, [.int 0, .int 1, .int 4, .int 0, .int 2])),
  ((a 69), .inr (3, [.ref (a 70), .ref (a 73), .ref (a 94), .ref (a 100), .ref (a 101), .ref (a 105), .ref (a 107), .int 0])),
  ((a 70), .inr (8, [.ref (a 71), .ref (a 72), .int 0])),
  ((a 71), .inl (g 0, 50, .inl (fun _ => 0))),
  ((a 72), .inl (g 0, 50, .inl (fun _ => 0))),
  ((a 73), .inr (4, [.ref (a 74), .ref (a 77), .ref (a 80), .ref (a 81), .int 0, .ref (a 82), .ref (a 86), .ref (a 90), .int 0, .int 0, .int 0, .int 0, .int 0, .int 0, .int 0])),
  ((a 74), .inr (8, [.ref (a 75), .ref (a 76), .int 0])),
  ((a 75), .inl (g 0, 50, .inl (fun _ => 0))),
  ((a 76), .inl (g 0, 50, .inl (fun _ => 0))),
  ((a 77), .inr (5, [.ref (a 78), .ref (a 79), .int 0, .int 2, .int 0, .int 0])),
  ((a 78), .inl (g 0, 200, .inl (fun _ => 0))),
  ((a 79), .inl (g 0, 6, .inl (fun _ => 0))),
  ((a 80), .inl (g 0, 6, .inl (fun _ => 0))),
  ((a 81), .inl (g 0, 6, .inl (fun _ => 0))),
  ((a 82), .inr (9, [.ref (a 83), .ref (a 84), .ref (a 85), .int 0, .int 0])),
  ((a 83), .inl (g 0, 100, .inl (fun _ => 0))),
  ((a 84), .inl (g 0, 200, .inl (fun _ => 0))),
  ((a 85), .inl (g 0, 200, .inl (fun _ => 0))),
  ((a 86), .inr (9, [.ref (a 87), .ref (a 88), .ref (a 89), .int 0, .int 0])),
  ((a 87), .inl (g 0, 100, .inl (fun _ => 0))),
  ((a 88), .inl (g 0, 200, .inl (fun _ => 0))),
  ((a 89), .inl (g 0, 200, .inl (fun _ => 0))),
  ((a 90), .inr (9, [.ref (a 91), .ref (a 92), .ref (a 93), .int 0, .int 0])),
  ((a 91), .inl (g 0, 100, .inl (fun _ => 0))),
  ((a 92), .inl (g 0, 200, .inl (fun _ => 0))),
  ((a 93), .inl (g 0, 200, .inl (fun _ => 0))),
  ((a 94), .inr (6, [.ref (a 95), .ref (a 98), .ref (a 99), .int 0, .int 0, .int 0, .int 0, .int 0])),
  ((a 95), .inr (5, [.ref (a 96), .ref (a 97), .int 0, .int 2, .int 0, .int 0])),
  ((a 96), .inl (g 0, 200, .inl (fun _ => 0))),
  ((a 97), .inl (g 0, 6, .inl (fun _ => 0))),
  ((a 98), .inl (g 0, 200, .inl (fun _ => 0))),
  ((a 99), .inl (g 0, 200, .inl (fun _ => 0))),
  ((a 100), .inr (10, [.int 0, .int 1, .int 4, .int 0, .int 2])),
  ((a 101), .inr (9, [.ref (a 102), .ref (a 103), .ref (a 104), .int 0, .int 0])),
  ((a 102), .inl (g 0, 100, .inl (fun _ => 0))),
  ((a 103), .inl (g 0, 200, .inl (fun _ => 0))),
  ((a 104), .inl (g 0, 200, .inl (fun _ => 0))),
  ((a 105), .inr (11, [.ref (a 106), .int 0])),
  ((a 106), .inl (g 0, 100, .inl (fun _ => 0))),
  ((a 107), .inl (g 0, 200, .inl (fun _ => 0))),
  ((a 108), .inr (11, [.ref (a 116), .int 0])),
  ((a 109), .inr (11, [.ref (a 117), .int 0])),
  ((a 110), .inr (11, [.ref (a 118), .int 0])),
  ((a 111), .inr (11, [.ref (a 119), .int 0])),
  ((a 112), .inr (11, [.ref (a 120), .int 0])),
  ((a 113), .inr (11, [.ref (a 121), .int 0])),
  ((a 114), .inr (11, [.ref (a 122), .int 0])),
  ((a 115), .inr (11, [.ref (a 123), .int 0])),
  ((a 116), .inl (g 0, 100, .inl (fun _ => 0))),
  ((a 117), .inl (g 0, 100, .inl (fun _ => 0))),
  ((a 118), .inl (g 0, 100, .inl (fun _ => 0))),
  ((a 119), .inl (g 0, 100, .inl (fun _ => 0))),
  ((a 120), .inl (g 0, 100, .inl (fun _ => 0))),
  ((a 121), .inl (g 0, 100, .inl (fun _ => 0))),
  ((a 122), .inl (g 0, 100, .inl (fun _ => 0))),
  ((a 123), .inl (g 0, 100, .inl (fun _ => 0))),
  ((a 124), .inr (11, [.ref (a 132), .int 0])),
  ((a 125), .inr (11, [.ref (a 133), .int 0])),
  ((a 126), .inr (11, [.ref (a 134), .int 0])),
  ((a 127), .inr (11, [.ref (a 135), .int 0])),
  ((a 128), .inr (11, [.ref (a 136), .int 0])),
  ((a 129), .inr (11, [.ref (a 137), .int 0])),
  ((a 130), .inr (11, [.ref (a 138), .int 0])),
  ((a 131), .inr (11, [.ref (a 139), .int 0])),
  ((a 132), .inl (g 0, 100, .inl (fun _ => 0))),
  ((a 133), .inl (g 0, 100, .inl (fun _ => 0))),
  ((a 134), .inl (g 0, 100, .inl (fun _ => 0))),
  ((a 135), .inl (g 0, 100, .inl (fun _ => 0))),
  ((a 136), .inl (g 0, 100, .inl (fun _ => 0))),
  ((a 137), .inl (g 0, 100, .inl (fun _ => 0))),
  ((a 138), .inl (g 0, 100, .inl (fun _ => 0))),
  ((a 139), .inl (g 0, 100, .inl (fun _ => 0)))]
def offW (a : Nat → Nat) (g : Nat → ClassId) : va_W := offL a g
theorem o_0 (a : Nat → Nat) (g : Nat → ClassId) : (offW a g)[0]? = some ((a 0), .inr (13, [.ref (a 1), .ref (a 4), .ref (a 5), .ref (a 6), .ref (a 8), .ref (a 9), .ref (a 12), .ref (a 16), .ref (a 22), .ref (a 43), .ref (a 64), .ref (a 69), .int 0])) := rfl
theorem o_1 (a : Nat → Nat) (g : Nat → ClassId) : (offW a g)[1]? = some ((a 1), .inr (2, [.ref (a 2), .ref (a 3), .int 0])) := rfl
theorem o_2 (a : Nat → Nat) (g : Nat → ClassId) : (offW a g)[2]? = some ((a 2), .inl (g 0, 200, .inl (fun _ => 0))) := rfl
theorem o_3 (a : Nat → Nat) (g : Nat → ClassId) : (offW a g)[3]? = some ((a 3), .inl (g 0, 200, .inl (fun _ => 0))) := rfl
theorem o_4 (a : Nat → Nat) (g : Nat → ClassId) : (offW a g)[4]? = some ((a 4), .inl (g 1, 8, .inr (.inr (.inr (.inr (va_up (va_up (va_up (va_up (va_up (va_up (va_up (va_up (fun _ => none) 0 (some (a 108))) 1 (some (a 109))) 2 (some (a 110))) 3 (some (a 111))) 4 (some (a 112))) 5 (some (a 113))) 6 (some (a 114))) 7 (some (a 115)))))))) := rfl
theorem o_5 (a : Nat → Nat) (g : Nat → ClassId) : (offW a g)[5]? = some ((a 5), .inl (g 1, 8, .inr (.inr (.inr (.inr (va_up (va_up (va_up (va_up (va_up (va_up (va_up (va_up (fun _ => none) 0 (some (a 124))) 1 (some (a 125))) 2 (some (a 126))) 3 (some (a 127))) 4 (some (a 128))) 5 (some (a 129))) 6 (some (a 130))) 7 (some (a 131)))))))) := rfl
theorem o_6 (a : Nat → Nat) (g : Nat → ClassId) : (offW a g)[6]? = some ((a 6), .inr (11, [.ref (a 7), .int 0])) := rfl
theorem o_7 (a : Nat → Nat) (g : Nat → ClassId) : (offW a g)[7]? = some ((a 7), .inl (g 0, 100, .inl (fun _ => 0))) := rfl
theorem o_8 (a : Nat → Nat) (g : Nat → ClassId) : (offW a g)[8]? = some ((a 8), .inr (10, [.int 0, .int 1, .int 4, .int 0, .int 2])) := rfl
theorem o_9 (a : Nat → Nat) (g : Nat → ClassId) : (offW a g)[9]? = some ((a 9), .inr (8, [.ref (a 10), .ref (a 11), .int 0])) := rfl
theorem o_10 (a : Nat → Nat) (g : Nat → ClassId) : (offW a g)[10]? = some ((a 10), .inl (g 0, 50, .inl (fun _ => 0))) := rfl
theorem o_11 (a : Nat → Nat) (g : Nat → ClassId) : (offW a g)[11]? = some ((a 11), .inl (g 0, 50, .inl (fun _ => 0))) := rfl
theorem o_12 (a : Nat → Nat) (g : Nat → ClassId) : (offW a g)[12]? = some ((a 12), .inr (9, [.ref (a 13), .ref (a 14), .ref (a 15), .int 0, .int 0])) := rfl
theorem o_13 (a : Nat → Nat) (g : Nat → ClassId) : (offW a g)[13]? = some ((a 13), .inl (g 0, 100, .inl (fun _ => 0))) := rfl
theorem o_14 (a : Nat → Nat) (g : Nat → ClassId) : (offW a g)[14]? = some ((a 14), .inl (g 0, 200, .inl (fun _ => 0))) := rfl
theorem o_15 (a : Nat → Nat) (g : Nat → ClassId) : (offW a g)[15]? = some ((a 15), .inl (g 0, 200, .inl (fun _ => 0))) := rfl
theorem o_16 (a : Nat → Nat) (g : Nat → ClassId) : (offW a g)[16]? = some ((a 16), .inr (6, [.ref (a 17), .ref (a 20), .ref (a 21), .int 0, .int 0, .int 0, .int 0, .int 0])) := rfl
theorem o_17 (a : Nat → Nat) (g : Nat → ClassId) : (offW a g)[17]? = some ((a 17), .inr (5, [.ref (a 18), .ref (a 19), .int 0, .int 2, .int 0, .int 0])) := rfl
theorem o_18 (a : Nat → Nat) (g : Nat → ClassId) : (offW a g)[18]? = some ((a 18), .inl (g 0, 200, .inl (fun _ => 0))) := rfl
theorem o_19 (a : Nat → Nat) (g : Nat → ClassId) : (offW a g)[19]? = some ((a 19), .inl (g 0, 6, .inl (fun _ => 0))) := rfl
theorem o_20 (a : Nat → Nat) (g : Nat → ClassId) : (offW a g)[20]? = some ((a 20), .inl (g 0, 200, .inl (fun _ => 0))) := rfl
theorem o_21 (a : Nat → Nat) (g : Nat → ClassId) : (offW a g)[21]? = some ((a 21), .inl (g 0, 200, .inl (fun _ => 0))) := rfl
theorem o_22 (a : Nat → Nat) (g : Nat → ClassId) : (offW a g)[22]? = some ((a 22), .inr (4, [.ref (a 23), .ref (a 26), .ref (a 29), .ref (a 30), .int 0, .ref (a 31), .ref (a 35), .ref (a 39), .int 0, .int 0, .int 0, .int 0, .int 0, .int 0, .int 0])) := rfl
theorem o_23 (a : Nat → Nat) (g : Nat → ClassId) : (offW a g)[23]? = some ((a 23), .inr (8, [.ref (a 24), .ref (a 25), .int 0])) := rfl
theorem o_24 (a : Nat → Nat) (g : Nat → ClassId) : (offW a g)[24]? = some ((a 24), .inl (g 0, 50, .inl (fun _ => 0))) := rfl
theorem o_25 (a : Nat → Nat) (g : Nat → ClassId) : (offW a g)[25]? = some ((a 25), .inl (g 0, 50, .inl (fun _ => 0))) := rfl
theorem o_26 (a : Nat → Nat) (g : Nat → ClassId) : (offW a g)[26]? = some ((a 26), .inr (5, [.ref (a 27), .ref (a 28), .int 0, .int 2, .int 0, .int 0])) := rfl
theorem o_27 (a : Nat → Nat) (g : Nat → ClassId) : (offW a g)[27]? = some ((a 27), .inl (g 0, 200, .inl (fun _ => 0))) := rfl
theorem o_28 (a : Nat → Nat) (g : Nat → ClassId) : (offW a g)[28]? = some ((a 28), .inl (g 0, 6, .inl (fun _ => 0))) := rfl
theorem o_29 (a : Nat → Nat) (g : Nat → ClassId) : (offW a g)[29]? = some ((a 29), .inl (g 0, 6, .inl (fun _ => 0))) := rfl
theorem o_30 (a : Nat → Nat) (g : Nat → ClassId) : (offW a g)[30]? = some ((a 30), .inl (g 0, 6, .inl (fun _ => 0))) := rfl
theorem o_31 (a : Nat → Nat) (g : Nat → ClassId) : (offW a g)[31]? = some ((a 31), .inr (9, [.ref (a 32), .ref (a 33), .ref (a 34), .int 0, .int 0])) := rfl
theorem o_32 (a : Nat → Nat) (g : Nat → ClassId) : (offW a g)[32]? = some ((a 32), .inl (g 0, 100, .inl (fun _ => 0))) := rfl
theorem o_33 (a : Nat → Nat) (g : Nat → ClassId) : (offW a g)[33]? = some ((a 33), .inl (g 0, 200, .inl (fun _ => 0))) := rfl
theorem o_34 (a : Nat → Nat) (g : Nat → ClassId) : (offW a g)[34]? = some ((a 34), .inl (g 0, 200, .inl (fun _ => 0))) := rfl
theorem o_35 (a : Nat → Nat) (g : Nat → ClassId) : (offW a g)[35]? = some ((a 35), .inr (9, [.ref (a 36), .ref (a 37), .ref (a 38), .int 0, .int 0])) := rfl
theorem o_36 (a : Nat → Nat) (g : Nat → ClassId) : (offW a g)[36]? = some ((a 36), .inl (g 0, 100, .inl (fun _ => 0))) := rfl
theorem o_37 (a : Nat → Nat) (g : Nat → ClassId) : (offW a g)[37]? = some ((a 37), .inl (g 0, 200, .inl (fun _ => 0))) := rfl
theorem o_38 (a : Nat → Nat) (g : Nat → ClassId) : (offW a g)[38]? = some ((a 38), .inl (g 0, 200, .inl (fun _ => 0))) := rfl
theorem o_39 (a : Nat → Nat) (g : Nat → ClassId) : (offW a g)[39]? = some ((a 39), .inr (9, [.ref (a 40), .ref (a 41), .ref (a 42), .int 0, .int 0])) := rfl
theorem o_40 (a : Nat → Nat) (g : Nat → ClassId) : (offW a g)[40]? = some ((a 40), .inl (g 0, 100, .inl (fun _ => 0))) := rfl
theorem o_41 (a : Nat → Nat) (g : Nat → ClassId) : (offW a g)[41]? = some ((a 41), .inl (g 0, 200, .inl (fun _ => 0))) := rfl
theorem o_42 (a : Nat → Nat) (g : Nat → ClassId) : (offW a g)[42]? = some ((a 42), .inl (g 0, 200, .inl (fun _ => 0))) := rfl
theorem o_43 (a : Nat → Nat) (g : Nat → ClassId) : (offW a g)[43]? = some ((a 43), .inr (4, [.ref (a 44), .ref (a 47), .ref (a 50), .ref (a 51), .int 0, .ref (a 52), .ref (a 56), .ref (a 60), .int 0, .int 0, .int 0, .int 0, .int 0, .int 0, .int 0])) := rfl
theorem o_44 (a : Nat → Nat) (g : Nat → ClassId) : (offW a g)[44]? = some ((a 44), .inr (8, [.ref (a 45), .ref (a 46), .int 0])) := rfl
theorem o_45 (a : Nat → Nat) (g : Nat → ClassId) : (offW a g)[45]? = some ((a 45), .inl (g 0, 50, .inl (fun _ => 0))) := rfl
theorem o_46 (a : Nat → Nat) (g : Nat → ClassId) : (offW a g)[46]? = some ((a 46), .inl (g 0, 50, .inl (fun _ => 0))) := rfl
theorem o_47 (a : Nat → Nat) (g : Nat → ClassId) : (offW a g)[47]? = some ((a 47), .inr (5, [.ref (a 48), .ref (a 49), .int 0, .int 2, .int 0, .int 0])) := rfl
theorem o_48 (a : Nat → Nat) (g : Nat → ClassId) : (offW a g)[48]? = some ((a 48), .inl (g 0, 200, .inl (fun _ => 0))) := rfl
theorem o_49 (a : Nat → Nat) (g : Nat → ClassId) : (offW a g)[49]? = some ((a 49), .inl (g 0, 6, .inl (fun _ => 0))) := rfl
theorem o_50 (a : Nat → Nat) (g : Nat → ClassId) : (offW a g)[50]? = some ((a 50), .inl (g 0, 6, .inl (fun _ => 0))) := rfl
theorem o_51 (a : Nat → Nat) (g : Nat → ClassId) : (offW a g)[51]? = some ((a 51), .inl (g 0, 6, .inl (fun _ => 0))) := rfl
theorem o_52 (a : Nat → Nat) (g : Nat → ClassId) : (offW a g)[52]? = some ((a 52), .inr (9, [.ref (a 53), .ref (a 54), .ref (a 55), .int 0, .int 0])) := rfl
theorem o_53 (a : Nat → Nat) (g : Nat → ClassId) : (offW a g)[53]? = some ((a 53), .inl (g 0, 100, .inl (fun _ => 0))) := rfl
theorem o_54 (a : Nat → Nat) (g : Nat → ClassId) : (offW a g)[54]? = some ((a 54), .inl (g 0, 200, .inl (fun _ => 0))) := rfl
theorem o_55 (a : Nat → Nat) (g : Nat → ClassId) : (offW a g)[55]? = some ((a 55), .inl (g 0, 200, .inl (fun _ => 0))) := rfl
theorem o_56 (a : Nat → Nat) (g : Nat → ClassId) : (offW a g)[56]? = some ((a 56), .inr (9, [.ref (a 57), .ref (a 58), .ref (a 59), .int 0, .int 0])) := rfl
theorem o_57 (a : Nat → Nat) (g : Nat → ClassId) : (offW a g)[57]? = some ((a 57), .inl (g 0, 100, .inl (fun _ => 0))) := rfl
theorem o_58 (a : Nat → Nat) (g : Nat → ClassId) : (offW a g)[58]? = some ((a 58), .inl (g 0, 200, .inl (fun _ => 0))) := rfl
theorem o_59 (a : Nat → Nat) (g : Nat → ClassId) : (offW a g)[59]? = some ((a 59), .inl (g 0, 200, .inl (fun _ => 0))) := rfl
theorem o_60 (a : Nat → Nat) (g : Nat → ClassId) : (offW a g)[60]? = some ((a 60), .inr (9, [.ref (a 61), .ref (a 62), .ref (a 63), .int 0, .int 0])) := rfl
theorem o_61 (a : Nat → Nat) (g : Nat → ClassId) : (offW a g)[61]? = some ((a 61), .inl (g 0, 100, .inl (fun _ => 0))) := rfl
theorem o_62 (a : Nat → Nat) (g : Nat → ClassId) : (offW a g)[62]? = some ((a 62), .inl (g 0, 200, .inl (fun _ => 0))) := rfl
theorem o_63 (a : Nat → Nat) (g : Nat → ClassId) : (offW a g)[63]? = some ((a 63), .inl (g 0, 200, .inl (fun _ => 0))) := rfl
theorem o_64 (a : Nat → Nat) (g : Nat → ClassId) : (offW a g)[64]? = some ((a 64), .inr (7, [.ref (a 65), .ref (a 67), .ref (a 68), .int 0, .int 0, .int 0, .int 0, .int 0, .int 0, .int 0, .int 0, .int 0, .int (-1)])) := rfl
theorem o_65 (a : Nat → Nat) (g : Nat → ClassId) : (offW a g)[65]? = some ((a 65), .inr (12, [.ref (a 66), .int 0])) := rfl
theorem o_66 (a : Nat → Nat) (g : Nat → ClassId) : (offW a g)[66]? = some ((a 66), .inl (g 0, 160, .inl (fun _ => 0))) := rfl
theorem o_67 (a : Nat → Nat) (g : Nat → ClassId) : (offW a g)[67]? = some ((a 67), .inl (g 0, 3, .inl (fun _ => 0))) := rfl
theorem o_68 (a : Nat → Nat) (g : Nat → ClassId) : (offW a g)[68]? = some ((a 68), .inr (10, [.int 0, .int 1, .int 4, .int 0, .int 2])) := rfl
theorem o_69 (a : Nat → Nat) (g : Nat → ClassId) : (offW a g)[69]? = some ((a 69), .inr (3, [.ref (a 70), .ref (a 73), .ref (a 94), .ref (a 100), .ref (a 101), .ref (a 105), .ref (a 107), .int 0])) := rfl
theorem o_70 (a : Nat → Nat) (g : Nat → ClassId) : (offW a g)[70]? = some ((a 70), .inr (8, [.ref (a 71), .ref (a 72), .int 0])) := rfl
theorem o_71 (a : Nat → Nat) (g : Nat → ClassId) : (offW a g)[71]? = some ((a 71), .inl (g 0, 50, .inl (fun _ => 0))) := rfl
theorem o_72 (a : Nat → Nat) (g : Nat → ClassId) : (offW a g)[72]? = some ((a 72), .inl (g 0, 50, .inl (fun _ => 0))) := rfl
theorem o_73 (a : Nat → Nat) (g : Nat → ClassId) : (offW a g)[73]? = some ((a 73), .inr (4, [.ref (a 74), .ref (a 77), .ref (a 80), .ref (a 81), .int 0, .ref (a 82), .ref (a 86), .ref (a 90), .int 0, .int 0, .int 0, .int 0, .int 0, .int 0, .int 0])) := rfl
theorem o_74 (a : Nat → Nat) (g : Nat → ClassId) : (offW a g)[74]? = some ((a 74), .inr (8, [.ref (a 75), .ref (a 76), .int 0])) := rfl
theorem o_75 (a : Nat → Nat) (g : Nat → ClassId) : (offW a g)[75]? = some ((a 75), .inl (g 0, 50, .inl (fun _ => 0))) := rfl
theorem o_76 (a : Nat → Nat) (g : Nat → ClassId) : (offW a g)[76]? = some ((a 76), .inl (g 0, 50, .inl (fun _ => 0))) := rfl
theorem o_77 (a : Nat → Nat) (g : Nat → ClassId) : (offW a g)[77]? = some ((a 77), .inr (5, [.ref (a 78), .ref (a 79), .int 0, .int 2, .int 0, .int 0])) := rfl
theorem o_78 (a : Nat → Nat) (g : Nat → ClassId) : (offW a g)[78]? = some ((a 78), .inl (g 0, 200, .inl (fun _ => 0))) := rfl
theorem o_79 (a : Nat → Nat) (g : Nat → ClassId) : (offW a g)[79]? = some ((a 79), .inl (g 0, 6, .inl (fun _ => 0))) := rfl
theorem o_80 (a : Nat → Nat) (g : Nat → ClassId) : (offW a g)[80]? = some ((a 80), .inl (g 0, 6, .inl (fun _ => 0))) := rfl
theorem o_81 (a : Nat → Nat) (g : Nat → ClassId) : (offW a g)[81]? = some ((a 81), .inl (g 0, 6, .inl (fun _ => 0))) := rfl
theorem o_82 (a : Nat → Nat) (g : Nat → ClassId) : (offW a g)[82]? = some ((a 82), .inr (9, [.ref (a 83), .ref (a 84), .ref (a 85), .int 0, .int 0])) := rfl
theorem o_83 (a : Nat → Nat) (g : Nat → ClassId) : (offW a g)[83]? = some ((a 83), .inl (g 0, 100, .inl (fun _ => 0))) := rfl
theorem o_84 (a : Nat → Nat) (g : Nat → ClassId) : (offW a g)[84]? = some ((a 84), .inl (g 0, 200, .inl (fun _ => 0))) := rfl
theorem o_85 (a : Nat → Nat) (g : Nat → ClassId) : (offW a g)[85]? = some ((a 85), .inl (g 0, 200, .inl (fun _ => 0))) := rfl
theorem o_86 (a : Nat → Nat) (g : Nat → ClassId) : (offW a g)[86]? = some ((a 86), .inr (9, [.ref (a 87), .ref (a 88), .ref (a 89), .int 0, .int 0])) := rfl
theorem o_87 (a : Nat → Nat) (g : Nat → ClassId) : (offW a g)[87]? = some ((a 87), .inl (g 0, 100, .inl (fun _ => 0))) := rfl
theorem o_88 (a : Nat → Nat) (g : Nat → ClassId) : (offW a g)[88]? = some ((a 88), .inl (g 0, 200, .inl (fun _ => 0))) := rfl
theorem o_89 (a : Nat → Nat) (g : Nat → ClassId) : (offW a g)[89]? = some ((a 89), .inl (g 0, 200, .inl (fun _ => 0))) := rfl
theorem o_90 (a : Nat → Nat) (g : Nat → ClassId) : (offW a g)[90]? = some ((a 90), .inr (9, [.ref (a 91), .ref (a 92), .ref (a 93), .int 0, .int 0])) := rfl
theorem o_91 (a : Nat → Nat) (g : Nat → ClassId) : (offW a g)[91]? = some ((a 91), .inl (g 0, 100, .inl (fun _ => 0))) := rfl
theorem o_92 (a : Nat → Nat) (g : Nat → ClassId) : (offW a g)[92]? = some ((a 92), .inl (g 0, 200, .inl (fun _ => 0))) := rfl
theorem o_93 (a : Nat → Nat) (g : Nat → ClassId) : (offW a g)[93]? = some ((a 93), .inl (g 0, 200, .inl (fun _ => 0))) := rfl
theorem o_94 (a : Nat → Nat) (g : Nat → ClassId) : (offW a g)[94]? = some ((a 94), .inr (6, [.ref (a 95), .ref (a 98), .ref (a 99), .int 0, .int 0, .int 0, .int 0, .int 0])) := rfl
theorem o_95 (a : Nat → Nat) (g : Nat → ClassId) : (offW a g)[95]? = some ((a 95), .inr (5, [.ref (a 96), .ref (a 97), .int 0, .int 2, .int 0, .int 0])) := rfl
theorem o_96 (a : Nat → Nat) (g : Nat → ClassId) : (offW a g)[96]? = some ((a 96), .inl (g 0, 200, .inl (fun _ => 0))) := rfl
theorem o_97 (a : Nat → Nat) (g : Nat → ClassId) : (offW a g)[97]? = some ((a 97), .inl (g 0, 6, .inl (fun _ => 0))) := rfl
theorem o_98 (a : Nat → Nat) (g : Nat → ClassId) : (offW a g)[98]? = some ((a 98), .inl (g 0, 200, .inl (fun _ => 0))) := rfl
theorem o_99 (a : Nat → Nat) (g : Nat → ClassId) : (offW a g)[99]? = some ((a 99), .inl (g 0, 200, .inl (fun _ => 0))) := rfl
theorem o_100 (a : Nat → Nat) (g : Nat → ClassId) : (offW a g)[100]? = some ((a 100), .inr (10, [.int 0, .int 1, .int 4, .int 0, .int 2])) := rfl
theorem o_101 (a : Nat → Nat) (g : Nat → ClassId) : (offW a g)[101]? = some ((a 101), .inr (9, [.ref (a 102), .ref (a 103), .ref (a 104), .int 0, .int 0])) := rfl
theorem o_102 (a : Nat → Nat) (g : Nat → ClassId) : (offW a g)[102]? = some ((a 102), .inl (g 0, 100, .inl (fun _ => 0))) := rfl
theorem o_103 (a : Nat → Nat) (g : Nat → ClassId) : (offW a g)[103]? = some ((a 103), .inl (g 0, 200, .inl (fun _ => 0))) := rfl
theorem o_104 (a : Nat → Nat) (g : Nat → ClassId) : (offW a g)[104]? = some ((a 104), .inl (g 0, 200, .inl (fun _ => 0))) := rfl
theorem o_105 (a : Nat → Nat) (g : Nat → ClassId) : (offW a g)[105]? = some ((a 105), .inr (11, [.ref (a 106), .int 0])) := rfl
theorem o_106 (a : Nat → Nat) (g : Nat → ClassId) : (offW a g)[106]? = some ((a 106), .inl (g 0, 100, .inl (fun _ => 0))) := rfl
theorem o_107 (a : Nat → Nat) (g : Nat → ClassId) : (offW a g)[107]? = some ((a 107), .inl (g 0, 200, .inl (fun _ => 0))) := rfl
theorem o_108 (a : Nat → Nat) (g : Nat → ClassId) : (offW a g)[108]? = some ((a 108), .inr (11, [.ref (a 116), .int 0])) := rfl
theorem o_109 (a : Nat → Nat) (g : Nat → ClassId) : (offW a g)[109]? = some ((a 109), .inr (11, [.ref (a 117), .int 0])) := rfl
theorem o_110 (a : Nat → Nat) (g : Nat → ClassId) : (offW a g)[110]? = some ((a 110), .inr (11, [.ref (a 118), .int 0])) := rfl
theorem o_111 (a : Nat → Nat) (g : Nat → ClassId) : (offW a g)[111]? = some ((a 111), .inr (11, [.ref (a 119), .int 0])) := rfl
theorem o_112 (a : Nat → Nat) (g : Nat → ClassId) : (offW a g)[112]? = some ((a 112), .inr (11, [.ref (a 120), .int 0])) := rfl
theorem o_113 (a : Nat → Nat) (g : Nat → ClassId) : (offW a g)[113]? = some ((a 113), .inr (11, [.ref (a 121), .int 0])) := rfl
theorem o_114 (a : Nat → Nat) (g : Nat → ClassId) : (offW a g)[114]? = some ((a 114), .inr (11, [.ref (a 122), .int 0])) := rfl
theorem o_115 (a : Nat → Nat) (g : Nat → ClassId) : (offW a g)[115]? = some ((a 115), .inr (11, [.ref (a 123), .int 0])) := rfl
theorem o_116 (a : Nat → Nat) (g : Nat → ClassId) : (offW a g)[116]? = some ((a 116), .inl (g 0, 100, .inl (fun _ => 0))) := rfl
theorem o_117 (a : Nat → Nat) (g : Nat → ClassId) : (offW a g)[117]? = some ((a 117), .inl (g 0, 100, .inl (fun _ => 0))) := rfl
theorem o_118 (a : Nat → Nat) (g : Nat → ClassId) : (offW a g)[118]? = some ((a 118), .inl (g 0, 100, .inl (fun _ => 0))) := rfl
theorem o_119 (a : Nat → Nat) (g : Nat → ClassId) : (offW a g)[119]? = some ((a 119), .inl (g 0, 100, .inl (fun _ => 0))) := rfl
theorem o_120 (a : Nat → Nat) (g : Nat → ClassId) : (offW a g)[120]? = some ((a 120), .inl (g 0, 100, .inl (fun _ => 0))) := rfl
theorem o_121 (a : Nat → Nat) (g : Nat → ClassId) : (offW a g)[121]? = some ((a 121), .inl (g 0, 100, .inl (fun _ => 0))) := rfl
theorem o_122 (a : Nat → Nat) (g : Nat → ClassId) : (offW a g)[122]? = some ((a 122), .inl (g 0, 100, .inl (fun _ => 0))) := rfl
theorem o_123 (a : Nat → Nat) (g : Nat → ClassId) : (offW a g)[123]? = some ((a 123), .inl (g 0, 100, .inl (fun _ => 0))) := rfl
theorem o_124 (a : Nat → Nat) (g : Nat → ClassId) : (offW a g)[124]? = some ((a 124), .inr (11, [.ref (a 132), .int 0])) := rfl
theorem o_125 (a : Nat → Nat) (g : Nat → ClassId) : (offW a g)[125]? = some ((a 125), .inr (11, [.ref (a 133), .int 0])) := rfl
theorem o_126 (a : Nat → Nat) (g : Nat → ClassId) : (offW a g)[126]? = some ((a 126), .inr (11, [.ref (a 134), .int 0])) := rfl
theorem o_127 (a : Nat → Nat) (g : Nat → ClassId) : (offW a g)[127]? = some ((a 127), .inr (11, [.ref (a 135), .int 0])) := rfl
theorem o_128 (a : Nat → Nat) (g : Nat → ClassId) : (offW a g)[128]? = some ((a 128), .inr (11, [.ref (a 136), .int 0])) := rfl
theorem o_129 (a : Nat → Nat) (g : Nat → ClassId) : (offW a g)[129]? = some ((a 129), .inr (11, [.ref (a 137), .int 0])) := rfl
theorem o_130 (a : Nat → Nat) (g : Nat → ClassId) : (offW a g)[130]? = some ((a 130), .inr (11, [.ref (a 138), .int 0])) := rfl
theorem o_131 (a : Nat → Nat) (g : Nat → ClassId) : (offW a g)[131]? = some ((a 131), .inr (11, [.ref (a 139), .int 0])) := rfl
theorem o_132 (a : Nat → Nat) (g : Nat → ClassId) : (offW a g)[132]? = some ((a 132), .inl (g 0, 100, .inl (fun _ => 0))) := rfl
theorem o_133 (a : Nat → Nat) (g : Nat → ClassId) : (offW a g)[133]? = some ((a 133), .inl (g 0, 100, .inl (fun _ => 0))) := rfl
theorem o_134 (a : Nat → Nat) (g : Nat → ClassId) : (offW a g)[134]? = some ((a 134), .inl (g 0, 100, .inl (fun _ => 0))) := rfl
theorem o_135 (a : Nat → Nat) (g : Nat → ClassId) : (offW a g)[135]? = some ((a 135), .inl (g 0, 100, .inl (fun _ => 0))) := rfl
theorem o_136 (a : Nat → Nat) (g : Nat → ClassId) : (offW a g)[136]? = some ((a 136), .inl (g 0, 100, .inl (fun _ => 0))) := rfl
theorem o_137 (a : Nat → Nat) (g : Nat → ClassId) : (offW a g)[137]? = some ((a 137), .inl (g 0, 100, .inl (fun _ => 0))) := rfl
theorem o_138 (a : Nat → Nat) (g : Nat → ClassId) : (offW a g)[138]? = some ((a 138), .inl (g 0, 100, .inl (fun _ => 0))) := rfl
theorem o_139 (a : Nat → Nat) (g : Nat → ClassId) : (offW a g)[139]? = some ((a 139), .inl (g 0, 100, .inl (fun _ => 0))) := rfl
theorem o_tape (a : Nat → Nat) (g : Nat → ClassId) (j : Nat) (h : j < 8) : (offW a g)[108 + j]? = some (a (108 + j), .inr (11, [.ref (a (116 + j)), .int 0])) := by
  match j, h with
  | 0, _ => rfl
  | 1, _ => rfl
  | 2, _ => rfl
  | 3, _ => rfl
  | 4, _ => rfl
  | 5, _ => rfl
  | 6, _ => rfl
  | 7, _ => rfl
theorem tp_at (a : Nat → Nat) (j : Nat) (h : j < 8) : (va_up (va_up (va_up (va_up (va_up (va_up (va_up (va_up (fun _ => none) 0 (some (a 108))) 1 (some (a 109))) 2 (some (a 110))) 3 (some (a 111))) 4 (some (a 112))) 5 (some (a 113))) 6 (some (a 114))) 7 (some (a 115))) j = some (a (108 + j)) := by
  match j, h with
  | 0, _ => rfl
  | 1, _ => rfl
  | 2, _ => rfl
  | 3, _ => rfl
  | 4, _ => rfl
  | 5, _ => rfl
  | 6, _ => rfl
  | 7, _ => rfl
