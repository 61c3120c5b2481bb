/-- an entry of a class: kind, two numbers, a constant -/
abbrev JE : Type := Nat × Nat × Nat × Int
def jcn : Nat → String := fun k => match k with
  | 0 => RX0
  | 1 => RX1
  | 2 => RX2
  | 3 => RX3
  | 4 => RX4
  | 5 => RX5
  | 6 => RX6
  | 7 => RX7
  | 8 => RX8
  | 9 => RX9
  | 10 => RX10
  | 11 => RX11
  | 12 => RX12
  | 13 => RJ0
  | 14 => RJ1
  | 15 => RJ2
  | 16 => RJ3
  | 17 => RJ9
  | 18 => RJ10
  | _ => RL
def jp_0 : List (List (Option JE)) := [[none, none, none, none, none, some (5, 0, 0, 0), none, none, none, none, none, some (0, 0, 0, 0), none, none, none, some (0, 0, 1, 0)],
  [none, none, some (0, 0, 2, 0), none, none, some (0, 0, 3, 0), none, none, some (0, 0, 4, 0), none, none, some (0, 0, 6, 0), none, none, none, some (0, 0, 7, 0)],
  [none, none, some (0, 0, 8, 0), none, none, some (0, 0, 10, 0), none, none, some (2, 272, 0, 0), none, none, none, none, none, some (0, 0, 5, 0), none],
  [none, none, some (1, 281, 0, 0), none, none, none, some (2, 180, 0, 0), none, none, none, none, none, some (0, 0, 9, 0), none, none, some (2, 125, 0, 0)],
  [none, none, some (1, 282, 0, 0), none, none, none, some (2, 283, 0, 0), none, none, some (1, 293, 0, 0)]]
def jp_1 : List (List (Option JE)) := [[none, none, none, some (5, 0, 0, 0), none, none, none, none, none, some (0, 1, 0, 0), none, none, none, none, none, some (0, 1, 1, 0)],
  [none, none, some (0, 1, 2, 0), none, none, some (0, 1, 3, 0), none, none, some (2, 124, 0, 0), none, none, none, none, none, some (2, 192, 0, 0), none],
  [none, some (2, 268, 0, 0)]]
def jp_2 : List (List (Option JE)) := [[none, none, none, some (5, 0, 0, 0), none, none, none, none, none, some (0, 2, 0, 0), none, none, none, none, none, some (0, 2, 1, 0)],
  [none, none, some (0, 2, 3, 0), none, none, some (0, 2, 2, 0), none, none, none, some (1, 136, 0, 0), none, none, none, some (0, 2, 4, 0), none, none],
  [some (0, 2, 5, 0), none, none, some (0, 2, 6, 0), none, none, some (0, 2, 7, 0), none, none, some (0, 2, 8, 0), none, none, some (0, 2, 9, 0), none, none, some (0, 2, 10, 0)],
  [none, none, some (1, 107, 0, 0), none, none, none, none, none, some (1, 116, 0, 0), none, none, none, none, none, some (0, 8, 0, 0), none],
  [none, none, some (1, 144, 0, 0), none, none, none, none, none, some (1, 151, 0, 0), none, none, some (1, 123, 0, 0), none, none, none, some (2, 115, 0, 0)],
  [none, none, none, some (1, 143, 0, 0), none, none, none, some (1, 172, 0, 0), none, none, none, some (1, 150, 0, 0)]]
def jp_3 : List (List (Option JE)) := [[none, none, none, some (5, 0, 0, 0), none, none, none, none, none, none, none, some (0, 3, 0, 0), none, none, none, some (2, 2, 0, 0)],
  [none, none, none, some (2, 3, 0, 0), none, none, none, some (0, 3, 1, 0), none, none, some (0, 3, 2, 0), none, none, some (8, 0, 0, 1000000), none, some (8, 0, 0, 100000000)],
  [none, some (8, 0, 0, 1000000000), none, some (8, 0, 0, 10), none, some (1, 94, 0, 0), none, none, some (2, 125, 0, 0)]]
def jp_4 : List (List (Option JE)) := [[none, none, none, some (5, 0, 0, 0), none, none, none, none, none, none, none, some (0, 4, 0, 0), none, none, none, some (0, 4, 1, 0)],
  [none, none, some (0, 4, 2, 0), none, none, none, some (10, 2, 0, 0), none, some (3, 4, 0, 0), none, none, some (0, 4, 4, 0), none, none, none, some (10, 8, 0, 0)],
  [none, some (3, 23, 0, 0), none, none, some (0, 4, 5, 0), none, none, none, some (0, 4, 6, 0), none, none, some (0, 4, 7, 0), none, none, some (0, 4, 8, 0), none],
  [none, some (0, 4, 3, 0), none, none, none, some (0, 4, 9, 0), none, none, none, some (1, 234, 0, 0), none, none, some (0, 4, 10, 0), none, none, some (0, 4, 11, 0)],
  [none, none, some (1, 235, 0, 0), none, none, none, some (1, 236, 0, 0), none, none, none, some (1, 237, 0, 0), none, none, some (1, 136, 0, 0), none, none],
  [none, some (1, 164, 0, 0), none, none, some (1, 171, 0, 0), none, none, none, some (1, 174, 0, 0), none, none, some (1, 175, 0, 0), none, none, none, some (0, 2, 8, 0)],
  [none, none, some (0, 2, 9, 0), none, none, some (0, 2, 10, 0), none, none, some (0, 4, 12, 0), none, none, some (6, 0, 0, 0), none, none, none, none],
  [none, some (1, 238, 0, 0)]]
def jp_5 : List (List (Option JE)) := [[none, none, none, some (5, 0, 0, 0), none, none, none, none, none, none, none, some (0, 5, 0, 0), none, none, none, some (0, 5, 1, 0)],
  [none, none, some (0, 5, 2, 0), none, none, some (0, 5, 3, 0), none, none, some (0, 5, 5, 0), none, none, none, some (0, 5, 8, 0), none, none, some (0, 5, 12, 0)],
  [none, none, none, some (0, 5, 4, 0), none, none, some (1, 54, 0, 0), none, none, none, none, none, some (0, 5, 11, 0), none, none, some (0, 5, 6, 0)],
  [none, none, some (0, 5, 7, 0), none, none, some (0, 5, 9, 0), none, none, some (0, 5, 10, 0), none, none, some (1, 37, 0, 0), none, none, some (1, 38, 0, 0), none],
  [none, none, some (1, 49, 0, 0), none, none, none, some (0, 9, 1, 0), none, none, some (1, 55, 0, 0), none, none, none, some (1, 60, 0, 0), none, none],
  [some (1, 50, 0, 0), none, none, none, some (0, 9, 4, 0), none, none, some (0, 9, 5, 0), none, none, none, some (1, 56, 0, 0), none, none, none, some (0, 9, 6, 0)],
  [none, none, some (0, 9, 7, 0), none, none, some (0, 9, 9, 0), none, none, none, some (0, 9, 8, 0), none, none, some (1, 57, 0, 0), none, none, some (1, 58, 0, 0)],
  [none, none, some (1, 51, 0, 0), none, none, some (1, 52, 0, 0), none, none, some (1, 53, 0, 0), none, none, some (1, 59, 0, 0), none, none, none, some (1, 61, 0, 0)],
  [none, none, some (1, 62, 0, 0), none, none, some (1, 63, 0, 0), none, none, some (1, 64, 0, 0)]]
def jp_6 : List (List (Option JE)) := [[none, none, none, some (5, 0, 0, 0), none, none, none, none, none, none, none, some (10, 8, 0, 0), none, some (0, 6, 0, 0), none, none],
  [none, some (0, 6, 1, 0), none, none, none, some (3, 23, 0, 0), none, none, some (0, 8, 0, 0), none, none, none, some (0, 8, 1, 0), none, none, some (0, 8, 2, 0)]]
def jp_7 : List (List (Option JE)) := [[none, none, none, some (5, 0, 0, 0), none, none, none, none, none, some (0, 7, 0, 0), none, none, none, none, none, some (0, 7, 1, 0)],
  [none, none, none, none, none, some (10, 10, 0, 0), none, some (0, 7, 3, 0), none, none, none, some (0, 7, 4, 0), none, none, some (4, 21, 0, 0), some (0, 7, 5, 0)],
  [none, none, none, some (0, 7, 6, 0), none, none, some (0, 7, 7, 0), none, none, some (0, 7, 8, 0), none, none, none, some (0, 7, 9, 0), none, none],
  [some (0, 7, 10, 0), none, none, some (0, 7, 11, 0), none, none, none, some (0, 7, 13, 0), none, none, some (0, 7, 18, 0), none, none, none, some (0, 10, 0, 0), none],
  [none, none, some (2, 66, 0, 0), none, none, none, some (1, 225, 0, 0), none, none, none, some (0, 2, 4, 0), none, none, none, none, some (0, 2, 5, 0)],
  [none, none, some (0, 2, 6, 0), none, none, some (0, 2, 7, 0), none, none, some (0, 7, 2, 0), none, none, none, some (1, 164, 0, 0), none, none, some (0, 7, 14, 0)],
  [none, none, some (0, 7, 15, 0), none, none, some (7, 0, 0, 1000000), some (0, 5, 4, 0), none, none, some (1, 53, 0, 0), none, none, some (1, 165, 0, 0), none, none, none],
  [some (1, 167, 0, 0), none, none, some (1, 181, 0, 0), none, none, some (1, 182, 0, 0), none, none, some (1, 64, 0, 0), none, none, some (1, 187, 0, 0), none, none, some (1, 188, 0, 0)],
  [none, none, some (1, 136, 0, 0), none, none, none, some (0, 7, 17, 0), none, none, some (0, 7, 16, 0), none, none, some (1, 62, 0, 0), none, none, some (0, 2, 9, 0)],
  [none, none, some (0, 7, 19, 0), some (1, 166, 0, 0), none, none, none, none, none, some (1, 176, 0, 0), none, none, none, some (1, 183, 0, 0), none, none],
  [none, some (1, 185, 0, 0), none, none, some (1, 61, 0, 0), none, none, some (1, 177, 0, 0), none, none, none, some (0, 7, 12, 0), none, none, some (1, 168, 0, 0), none],
  [none, some (1, 169, 0, 0), none, none, none, some (1, 157, 0, 0), none, none, none, some (0, 2, 10, 0), none, none, some (1, 178, 0, 0), none, none, none],
  [some (1, 179, 0, 0), none, none, some (0, 2, 2, 0), none, none, none, some (1, 170, 0, 0), none, none, none, none, none, some (1, 189, 0, 0), none, none],
  [some (1, 190, 0, 0), none, none, some (0, 10, 2, 0), none, none, some (2, 191, 0, 0), none, none, none, some (1, 193, 0, 0), none, none, none, some (0, 10, 1, 0), none],
  [none, some (1, 194, 0, 0), none, none, none, some (1, 173, 0, 0), none, none, none, some (2, 192, 0, 0), none, none, none, none, some (1, 141, 0, 0), none],
  [none, none, none, some (0, 8, 1, 0), none, none, some (1, 143, 0, 0), none, none, none, some (1, 172, 0, 0), none, none, none, some (1, 171, 0, 0), none],
  [none, none, some (1, 174, 0, 0), none, none, some (1, 175, 0, 0)]]
def jp_8 : List (List (Option JE)) := [[none, none, none, some (5, 0, 0, 0), none, none, none, none, none, some (0, 8, 0, 0), none, none, none, none, none, some (0, 8, 1, 0)],
  [none, none, none, some (0, 8, 2, 0), none, none, some (1, 24, 0, 0), none, none, none, none, none, some (0, 8, 3, 0), none, none, none],
  [some (0, 8, 4, 0), none, none, some (2, 180, 0, 0), none, none, none, none, none, some (2, 142, 0, 0), none, none, some (2, 115, 0, 0), none, none, some (2, 124, 0, 0)],
  [none, none, some (7, 0, 0, 1000000), some (0, 8, 5, 0), none, none, some (0, 8, 6, 0), none, none, some (0, 8, 7, 0), none, none, some (1, 126, 0, 0), none, none, none],
  [some (1, 116, 0, 0), none, none, some (2, 125, 0, 0), none, none, some (1, 128, 0, 0), none, none, some (2, 129, 0, 0), none, none, some (2, 130, 0, 0), none, none, some (11, 0, 0, 0)],
  [none, none, some (1, 250, 0, 0), none, none, none, some (1, 251, 0, 0), none, none, some (1, 249, 0, 0)]]
def jp_9 : List (List (Option JE)) := [[none, none, none, some (5, 0, 0, 0), none, none, none, none, none, none, none, some (0, 9, 0, 0), none, none, none, some (0, 9, 2, 0)],
  [none, none, none, some (9, 0, 0, 0), none, some (2, 6, 0, 0), none, none, none, some (9, 1, 0, 0), none, some (9, 2, 0, 0), none, some (9, 3, 0, 0), none, some (9, 4, 0, 0)],
  [none, some (9, 5, 0, 0), none, some (9, 6, 0, 0), none, some (9, 7, 0, 0), none, some (9, 8, 0, 0), none, some (9, 9, 0, 0), none, some (9, 10, 0, 0), none, some (1, 7, 0, 0), none, none],
  [none, none, none, some (1, 9, 0, 0), none, none, none, some (2, 18, 0, 0), none, none, none, some (8, 0, 0, 27), none, some (0, 9, 1, 0), none, none],
  [none, some (0, 9, 3, 0), none, none, some (1, 39, 0, 0), none, none, none, some (2, 40, 0, 0), none, none, none, some (0, 9, 4, 0), none, none, some (2, 41, 0, 0)],
  [none, none, some (1, 42, 0, 0), none, none, some (2, 43, 0, 0), none, none, some (1, 44, 0, 0), none, none, some (1, 48, 0, 0), none, none, some (0, 9, 5, 0), none],
  [none, none, some (1, 45, 0, 0), none, none, some (0, 9, 9, 0), none, none, none, some (1, 46, 0, 0), none, none, none, some (1, 47, 0, 0), none, none],
  [none, some (0, 9, 8, 0), none, none, some (0, 9, 6, 0), none, none, some (0, 9, 7, 0)]]
def jp_10 : List (List (Option JE)) := [[none, none, none, some (5, 0, 0, 0), none, none, none, none, none, some (0, 10, 0, 0), none, none, none, none, none, some (0, 10, 1, 0)],
  [none, none, none, some (0, 10, 2, 0), none, none, some (0, 10, 3, 0), none, none, some (0, 10, 4, 0), none, none, some (0, 10, 5, 0), none, none, some (0, 10, 6, 0)],
  [none, none, some (1, 128, 0, 0), none, none, none, none, none, some (2, 130, 0, 0), none, none, some (2, 129, 0, 0), none, none, some (2, 180, 0, 0), none],
  [none, none, none, none, some (2, 124, 0, 0), none, none, some (1, 195, 0, 0), none, none, none, none, some (2, 184, 0, 0), none, none, none],
  [some (1, 186, 0, 0)]]
def jp_11 : List (List (Option JE)) := [[none, some (5, 0, 0, 0), none, none, none, none, none, some (10, 3, 0, 0), none, some (3, 1, 0, 0), some (0, 11, 0, 0), none, none, none, none, none],
  [some (10, 6, 0, 0), none, some (0, 11, 1, 0), none, none, none, some (10, 2, 0, 0), none, some (3, 4, 0, 0), none, none, some (0, 11, 3, 0), none, none, none, some (10, 9, 0, 0)],
  [none, some (3, 5, 0, 0), some (0, 11, 4, 0), none, none, none, some (10, 5, 0, 0), none, some (3, 19, 0, 0), some (0, 11, 5, 0), none, none, none, some (0, 11, 6, 0), none, none],
  [some (0, 11, 7, 0), none, none, none, some (10, 7, 0, 0), none, some (3, 20, 0, 0), none, none, some (0, 11, 8, 0), none, none, none, some (10, 4, 0, 0), none, some (3, 22, 0, 0)],
  [none, none, some (0, 11, 9, 0), none, none, none, some (10, 1, 0, 0), none, some (3, 25, 0, 0), some (0, 11, 10, 0), none, none, none, some (10, 0, 0, 0), none, some (3, 26, 0, 0)],
  [some (0, 11, 11, 0), none, none, none, some (1, 29, 0, 0), none, none, none, some (1, 30, 0, 0), none, none, none, some (0, 9, 1, 0), none, none, some (1, 36, 0, 0)],
  [none, none, none, some (0, 5, 12, 0), some (0, 5, 11, 0), none, none, some (1, 65, 0, 0), none, none, some (1, 94, 0, 0), none, none, none, some (0, 11, 2, 0), none],
  [none, some (3, 98, 0, 0), some (1, 101, 0, 0), none, none, none, some (1, 102, 0, 0), none, none, none, some (1, 106, 0, 0), none, none, none, some (1, 108, 0, 0), none],
  [none, none, none, none, some (0, 2, 0, 0), none, none, some (0, 2, 1, 0), none, none, some (1, 114, 0, 0), none, none, some (2, 115, 0, 0), none, none],
  [none, some (1, 116, 0, 0), none, none, some (1, 123, 0, 0), none, none, some (1, 127, 0, 0), none, none, some (1, 135, 0, 0), none, none, none, some (1, 139, 0, 0), none],
  [none, none, some (2, 140, 0, 0), none, none, some (1, 141, 0, 0), none, none, some (1, 143, 0, 0), none, none, none, some (0, 2, 5, 0), none, none, some (0, 8, 0, 0)],
  [none, none, none, some (1, 150, 0, 0), none, none, some (0, 2, 4, 0), none, none, some (0, 2, 2, 0), none, none, none, some (1, 157, 0, 0), none, none],
  [none, some (0, 2, 3, 0), none, none, some (0, 2, 6, 0), none, none, some (0, 2, 7, 0), none, none, some (1, 163, 0, 0), none, none, none, some (0, 2, 8, 0), none],
  [none, some (0, 7, 17, 0), none, none, some (0, 7, 18, 0), none, none, some (0, 7, 19, 0), none, none, some (0, 5, 6, 0), none, none, some (1, 224, 0, 0), none, none],
  [some (1, 228, 0, 0), none, none, none, some (1, 231, 0, 0), none, none, none, some (0, 4, 3, 0), none, none, some (1, 234, 0, 0), none, none, some (0, 4, 10, 0), none],
  [none, some (0, 4, 11, 0), none, none, some (0, 4, 12, 0), none, none, some (1, 245, 0, 0), none, none, some (2, 248, 0, 0), none, none, some (0, 8, 1, 0), none, none],
  [some (1, 249, 0, 0), none, none, none, some (1, 257, 0, 0), none, none, some (1, 260, 0, 0), none, none, none, some (1, 195, 0, 0), none, none, some (1, 263, 0, 0), none],
  [none, some (2, 142, 0, 0), none, none, none, none, some (1, 264, 0, 0), none, none, some (2, 130, 0, 0), none, none, some (2, 192, 0, 0), none, none, some (2, 129, 0, 0)],
  [none, none, some (2, 267, 0, 0), none, none, some (1, 251, 0, 0), none, none, some (2, 271, 0, 0), none, none, some (1, 273, 0, 0), none, none, none, some (1, 276, 0, 0)],
  [none, none, some (1, 279, 0, 0), none, none, some (1, 284, 0, 0), none, none, some (1, 292, 0, 0), none, none, some (1, 293, 0, 0), none, none, some (1, 296, 0, 0), none],
  [none, some (1, 299, 0, 0), none, none, some (0, 0, 5, 0), none, none, some (1, 107, 0, 0), none, some (0, 6, 1, 0), none, none, some (1, 280, 0, 0)]]
def jp_12 : List (List (Option JE)) := [[none, some (5, 0, 0, 0), none, none, none, none, none, some (0, 12, 0, 0), none, none, none, none, none, some (0, 12, 3, 0), none, none],
  [none, some (0, 12, 5, 0), none, none, none, some (0, 12, 6, 0), none, none, none, some (0, 12, 7, 0), none, none, some (0, 12, 8, 0), none, none, some (0, 12, 9, 0)],
  [none, none, some (0, 12, 10, 0), none, none, some (0, 12, 11, 0), none, none, some (0, 12, 12, 0), none, none, some (0, 12, 13, 0), none, none, some (0, 12, 18, 0), none],
  [none, some (0, 12, 25, 0), none, none, some (0, 12, 26, 0), none, none, some (0, 12, 27, 0), none, none, some (0, 12, 28, 0), none, none, some (0, 12, 29, 0), none, none],
  [some (0, 12, 30, 0), none, none, some (0, 12, 31, 0), none, none, some (0, 12, 32, 0), none, none, some (0, 12, 33, 0), none, none, some (0, 12, 34, 0), none, none, some (0, 12, 35, 0)],
  [none, none, some (0, 12, 36, 0), none, none, some (0, 12, 37, 0), none, none, some (0, 12, 38, 0), none, none, none, some (0, 12, 39, 0), none, none, some (0, 12, 41, 0)],
  [none, none, some (0, 12, 42, 0), none, none, some (0, 12, 43, 0), none, none, some (0, 12, 44, 0), none, none, some (0, 12, 45, 0), none, none, some (0, 12, 46, 0), none],
  [none, some (0, 12, 47, 0), none, none, some (0, 12, 55, 0), none, none, some (0, 12, 56, 0), none, none, some (0, 12, 59, 0), none, none, some (0, 12, 60, 0), none, none],
  [some (0, 12, 61, 0), none, none, some (0, 12, 62, 0), none, none, some (0, 12, 63, 0), none, none, some (0, 12, 70, 0), none, none, some (0, 12, 71, 0), none, none, some (0, 12, 72, 0)],
  [none, none, some (0, 12, 73, 0), none, none, some (0, 12, 75, 0), none, none, some (0, 12, 76, 0), none, none, some (0, 12, 77, 0), none, none, some (0, 12, 78, 0), none],
  [none, some (0, 12, 79, 0), none, none, some (0, 12, 80, 0), none, none, some (0, 12, 81, 0), none, none, some (0, 12, 82, 0), none, none, some (8, 0, 0, 1000000), none, some (8, 0, 0, 100000000)],
  [none, some (8, 0, 0, 1000000000), none, some (8, 0, 0, 10), none, some (0, 12, 1, 0), none, none, some (1, 32, 0, 0), none, none, none, some (2, 96, 0, 0), none, none, none],
  [some (0, 12, 4, 0), none, none, some (1, 104, 0, 0), none, none, some (1, 110, 0, 0), none, none, none, some (1, 120, 0, 0), none, none, none, some (2, 121, 0, 0), none],
  [none, none, some (1, 118, 0, 0), none, none, none, some (1, 119, 0, 0), none, none, some (7, 0, 0, 1000000), some (2, 133, 0, 0), none, none, none, some (1, 132, 0, 0), none],
  [none, none, some (0, 12, 14, 0), none, none, some (0, 12, 15, 0), none, none, some (0, 12, 16, 0), none, none, some (0, 12, 17, 0), none, none, some (2, 146, 0, 0), none],
  [none, some (2, 147, 0, 0), none, none, some (1, 148, 0, 0), none, none, none, some (1, 153, 0, 0), none, none, some (1, 159, 0, 0), none, none, some (1, 70, 0, 0), none],
  [none, some (8, 0, 0, 7103860), none, some (8, 0, 0, 125780002955636), none, some (8, 0, 0, 26982), none, some (8, 0, 0, 1701606245), none, some (8, 0, 0, 6647396), none, some (8, 0, 0, 126948267617401), none, some (8, 0, 0, 126931137819237), none, some (8, 0, 0, 1668637285)],
  [none, some (8, 0, 0, 1919905652), none, some (8, 0, 0, 499967947364), none, some (8, 0, 0, 1870030194), none, some (0, 12, 20, 0), none, none, some (1, 69, 0, 0), none, none, some (0, 12, 23, 0), none, none],
  [none, some (2, 72, 0, 0), none, none, none, some (0, 12, 22, 0), none, none, some (0, 12, 19, 0), none, none, some (0, 12, 21, 0), none, none, some (1, 73, 0, 0), none],
  [none, some (1, 71, 0, 0), none, none, some (1, 74, 0, 0), none, none, some (0, 12, 2, 0), none, none, some (0, 12, 24, 0), none, none, some (1, 76, 0, 0), none, none],
  [some (1, 68, 0, 0), none, none, some (1, 82, 0, 0), none, none, some (1, 78, 0, 0), none, none, none, some (1, 84, 0, 0), none, none, some (1, 85, 0, 0), none, none],
  [none, some (1, 79, 0, 0), none, none, none, some (1, 80, 0, 0), none, none, some (1, 81, 0, 0), none, none, some (1, 83, 0, 0), none, none, some (0, 12, 40, 0), none],
  [none, some (1, 88, 0, 0), none, none, some (1, 77, 0, 0), none, none, some (1, 86, 0, 0), none, none, some (1, 87, 0, 0), none, none, some (1, 89, 0, 0), none, none],
  [some (1, 90, 0, 0), none, none, some (1, 75, 0, 0), none, none, some (0, 12, 52, 0), none, none, some (0, 12, 48, 0), none, none, some (1, 199, 0, 0), none, none, some (1, 207, 0, 0)],
  [none, none, some (1, 206, 0, 0), none, none, some (1, 205, 0, 0), none, none, some (0, 12, 50, 0), none, none, some (1, 208, 0, 0), none, none, some (1, 198, 0, 0), none],
  [none, some (1, 202, 0, 0), none, none, some (1, 203, 0, 0), none, none, none, some (1, 204, 0, 0), none, none, some (1, 209, 0, 0), none, none, some (2, 210, 0, 0), none],
  [none, some (0, 12, 49, 0), none, none, some (0, 12, 57, 0), none, none, some (1, 212, 0, 0), none, none, some (1, 201, 0, 0), none, none, some (1, 211, 0, 0), none, none],
  [some (1, 213, 0, 0), none, none, none, some (1, 215, 0, 0), none, none, some (1, 216, 0, 0), none, none, some (0, 12, 53, 0), none, none, some (1, 200, 0, 0), none, none],
  [some (1, 214, 0, 0), none, none, some (1, 197, 0, 0), none, none, some (0, 12, 54, 0), none, none, some (0, 12, 51, 0), none, none, some (0, 12, 58, 0), none, none, some (0, 12, 67, 0)],
  [none, none, some (0, 12, 68, 0), none, none, some (0, 12, 69, 0), none, none, some (1, 243, 0, 0), none, none, some (1, 241, 0, 0), none, none, some (0, 12, 64, 0), none],
  [none, some (0, 12, 65, 0), none, none, some (0, 12, 66, 0), none, none, some (1, 242, 0, 0), none, none, some (1, 240, 0, 0), none, none, some (2, 254, 0, 0), none, none],
  [some (1, 255, 0, 0), none, none, none, some (1, 253, 0, 0), none, none, none, some (0, 12, 74, 0), none, none, some (1, 290, 0, 0), none, none, none, some (1, 289, 0, 0)],
  [none, none, some (0, 12, 83, 0), none, none, some (0, 12, 84, 0), none, none, some (1, 286, 0, 0), none, none, some (1, 287, 0, 0), none, none, some (1, 288, 0, 0)]]
def jp_13 : List (List (Option JE)) := [[none, none, none, none, none, none, none, none, none, some (12, 0, 0, 0), none, none, none, none, none, some (12, 1, 0, 0)],
  [none, none, none, none, none, none, none, none, none, none, none, none, none, none, none, none],
  [none, none, none, none, none, none, some (11, 1, 0, 0), none, none, none, none, none, none, none, none, none],
  [none, none, none, none, none, none, none, none, none, none, none, none, none, none, none, none],
  [none, none, none, none, none, none, none, none, none, none, none, none, none, none, none, none],
  [none, none, none, none, none, none, none, none, none, none, none, none, none, none, none, none],
  [none, none, none, none, none, none, none, none, none, none, none, none, none, none, none, none],
  [none, none, none, none, none, none, none, none, none, none, none, none, none, none, none, none],
  [none, none, none, none, none, none, none, none, none, none, none, none, none, none, none, none],
  [none, none, none, none, none, none, none, none, none, none, none, none, none, none, none, none],
  [none, none, none, none, none, none, none, none, none, none, none, none, none, none, none, none],
  [none, none, none, none, none, none, none, none, none, none, none, none, none, none, none, none],
  [none, none, none, none, none, none, none, none, none, none, none, none, none, none, none, none],
  [none, none, none, none, none, none, none, none, none, none, none, none, none, none, none, none],
  [none, none, none, none, none, none, none, none, none, none, none, none, none, none, none, none],
  [none, none, none, none, none, none, none, none, none, none, none, none, none, none, none, none],
  [none, none, none, none, none, none, none, none, none, none, none, none, none, none, none, none],
  [none, none, none, none, none, none, none, none, none, none, none, none, none, none, none, none],
  [none, none, none, none, none, none, none, none, none, none, none, none, none, none, none, none],
  [none, none, none, none, none, none, none, none, none, none, none, none, none, none, none, none],
  [none, none, none, none, none, none, none, none, none, none, none, none, none, none, none, some (1, 8, 0, 0)],
  [none, none, none, none, none, none, none, none, none, none, none, none, none, none, none, none],
  [none, none, none, none, none, none, none, none, none, none, none, none, none, none, none, none],
  [none, none, none, none, none, none, none, none, none, none, none, none, none, none, none, none],
  [none, none, none, none, none, none, none, none, none, none, none, none, none, none, none, none],
  [none, none, none, none, none, none, none, none, none, none, none, none, none, none, none, none],
  [none, none, none, none, none, none, none, none, none, none, none, none, none, none, none, none],
  [none, none, none, none, none, none, none, none, none, none, none, none, none, none, none, none],
  [none, none, none, none, none, none, none, none, none, none, none, none, none, none, none, none],
  [none, none, none, none, none, none, none, none, none, none, none, none, none, none, none, none],
  [none, none, none, none, none, none, none, none, none, none, none, none, some (1, 10, 0, 0), none, none, some (2, 11, 0, 0)],
  [none, none, some (2, 14, 0, 0), none, none, none, none, none, none, none, none, none, none, none, none, none],
  [none, none, none, none, none, none, none, none, none, none, none, none, none, none, none, none],
  [none, none, none, none, none, none, none, none, none, none, none, none, none, none, none, none],
  [none, none, none, none, none, none, none, none, none, none, none, none, none, none, none, none],
  [none, none, none, none, none, none, none, none, none, none, none, none, none, none, none, none],
  [none, none, none, none, none, none, none, none, none, none, none, none, none, none, none, none],
  [none, none, none, none, none, none, none, none, none, none, none, none, none, none, none, none],
  [none, none, none, none, none, none, none, none, none, none, none, none, none, none, none, none],
  [none, none, none, none, none, none, none, none, none, none, none, none, none, none, none, none],
  [none, none, none, none, none, none, none, none, none, none, none, none, none, none, none, none],
  [none, none, none, none, none, none, none, none, none, none, none, none, none, none, none, none],
  [none, none, none, none, none, none, none, none, none, none, none, none, none, none, none, none],
  [none, none, none, none, none, none, none, none, none, none, none, none, none, none, none, none],
  [none, none, none, none, none, none, none, none, none, none, none, none, none, none, none, none],
  [none, none, none, none, none, none, none, none, none, none, none, none, none, none, none, none],
  [none, none, none, none, none, none, none, none, none, none, none, none, none, none, none, none],
  [none, none, none, none, none, none, none, none, none, none, none, none, none, none, none, none],
  [none, none, none, none, none, none, none, none, none, none, none, none, none, none, none, none],
  [none, none, none, none, none, none, none, none, none, none, none, none, none, none, none, none],
  [none, none, none, none, none, none, none, none, none, none, none, none, none, none, none, none],
  [none, none, none, none, none, none, none, none, none, none, none, none, none, none, none, none],
  [none, none, none, none, none, none, none, none, none, none, none, none, none, none, none, none],
  [none, none, none, none, none, none, none, none, none, none, none, none, none, none, none, none],
  [none, none, none, none, none, none, none, none, none, none, none, none, none, none, none, none],
  [none, none, none, none, none, none, none, none, none, none, none, none, none, none, none, none],
  [none, none, none, none, none, none, none, none, none, none, none, none, none, none, none, none],
  [none, none, none, none, none, none, none, none, none, none, none, none, none, none, none, none],
  [none, none, none, none, none, none, none, none, none, none, none, none, none, none, none, none],
  [none, none, none, none, none, none, none, none, none, none, none, none, none, none, none, none],
  [none, none, none, none, none, none, none, none, none, none, none, none, none, none, none, none],
  [none, none, none, none, none, none, none, none, none, none, none, none, none, none, none, none],
  [none, none, none, none, none, none, none, none, none, none, none, none, none, none, none, none],
  [none, none, none, none, none, none, none, none, none, none, none, none, none, none, none, none],
  [none, none, none, none, none, none, none, none, none, none, none, none, none, none, none, none],
  [none, none, none, none, none, none, none, none, none, none, none, none, none, some (11, 2, 0, 0), none, none],
  [none, none, none, some (2, 13, 0, 0)]]
def jp_14 : List (List (Option JE)) := [[none, none, none, none, none, none, none, none, none, some (2, 12, 0, 0)]]
def jp_15 : List (List (Option JE)) := [[none, none, none, none, none, none, none, none, none, none, none, none, none, none, none, none],
  [none, none, none, none, none, none, none, none, none, none, none, none, none, none, none, none],
  [none, none, none, none, none, none, none, none, none, none, none, none, none, none, none, none],
  [some (2, 16, 0, 0), none, none, none, none, none, none, none, none, none, none, none, none, none, none, none],
  [none, none, none, some (2, 15, 0, 0), none, none, none, some (2, 17, 0, 0), none, none, none, none, none, none, none, none],
  [none, none, none, none, none, none, none, none, none, none, none, none, none, none, none, none],
  [none, none, none, none, none, none, none, none, none, none, none, none, none, none, none, none],
  [none, none, none, none, none, none, none, none, none, none, none, none, none, none, none, none],
  [none, none, none, none, none, none, none, none, none, none, none, none, none, none, none, none],
  [none, none, none, none, none, none, none, none, none, none, none, none, none, none, none, none],
  [none, none, none, none, none, none, none, none, none, none, none, none, none, none, none, none],
  [none, none, none, none, none, none, none, none, none, none, none, none, none, none, none, none],
  [none, none, none, none, none, none, none, none, none, none, none, none, none, none, none, none],
  [none, none, none, none, none, none, none, none, none, none, none, none, none, none, none, none],
  [none, none, none, none, none, none, none, none, none, none, none, none, none, none, none, none],
  [none, none, none, none, none, none, none, none, none, none, none, none, none, none, none, none],
  [none, none, none, none, none, none, none, none, none, none, none, none, none, none, none, none],
  [none, none, none, none, none, none, none, none, none, none, none, none, none, none, none, none],
  [none, none, none, none, none, none, none, none, none, none, none, none, none, none, none, none],
  [none, none, none, none, none, none, none, none, none, none, none, none, none, none, none, none],
  [none, none, none, none, none, none, none, none, none, none, none, none, none, none, none, none],
  [none, none, none, none, none, none, none, none, none, none, none, none, none, none, none, none],
  [none, none, none, none, none, none, none, none, none, none, none, none, none, none, none, none],
  [none, none, none, none, none, none, none, none, none, none, none, none, none, none, none, none],
  [none, none, none, none, none, none, none, none, none, none, none, none, none, none, none, none],
  [none, none, none, none, none, none, none, none, none, none, none, none, none, none, some (2, 12, 0, 0)]]
def jp_19 : List (List (Option JE)) := [[none, none, none, none, none, none, none, some (10, 11, 0, 0), none, some (3, 0, 0, 0), some (10, 12, 0, 0), none, some (3, 27, 0, 0), some (1, 28, 0, 0), none, none],
  [none, some (1, 31, 0, 0), some (1, 33, 0, 0), none, none, none, some (1, 34, 0, 0), some (1, 35, 0, 0), none, none, none, some (1, 67, 0, 0), some (1, 91, 0, 0), none, none, some (1, 92, 0, 0)],
  [some (1, 93, 0, 0), none, none, some (1, 95, 0, 0), some (1, 97, 0, 0), none, none, some (1, 99, 0, 0), some (1, 100, 0, 0), none, none, none, some (1, 103, 0, 0), some (1, 105, 0, 0), none, none],
  [none, some (1, 109, 0, 0), some (1, 111, 0, 0), none, none, none, some (1, 112, 0, 0), some (1, 113, 0, 0), none, none, none, some (1, 117, 0, 0), some (1, 122, 0, 0), none, none, some (1, 131, 0, 0)],
  [some (1, 134, 0, 0), none, none, none, some (1, 137, 0, 0), some (1, 138, 0, 0), none, none, none, some (1, 145, 0, 0), some (1, 149, 0, 0), none, none, some (1, 152, 0, 0), some (1, 154, 0, 0), none],
  [none, none, some (1, 155, 0, 0), some (1, 156, 0, 0), none, none, none, some (1, 158, 0, 0), some (1, 160, 0, 0), none, none, some (1, 161, 0, 0), some (1, 162, 0, 0), none, none, some (1, 196, 0, 0)],
  [some (1, 217, 0, 0), none, none, some (1, 218, 0, 0), some (1, 219, 0, 0), none, none, some (1, 220, 0, 0), some (1, 221, 0, 0), none, none, some (1, 222, 0, 0), some (1, 223, 0, 0), none, none, some (1, 226, 0, 0)],
  [some (1, 227, 0, 0), none, none, none, some (1, 229, 0, 0), some (1, 230, 0, 0), none, none, some (1, 232, 0, 0), some (1, 233, 0, 0), none, none, some (1, 239, 0, 0), some (1, 244, 0, 0), none, none],
  [some (1, 246, 0, 0), some (1, 247, 0, 0), none, none, some (1, 252, 0, 0), some (1, 256, 0, 0), none, none, some (1, 258, 0, 0), some (1, 259, 0, 0), none, none, some (1, 261, 0, 0), some (1, 262, 0, 0), none, none],
  [some (1, 265, 0, 0), some (1, 266, 0, 0), none, none, some (1, 269, 0, 0), some (1, 270, 0, 0), none, none, none, some (1, 274, 0, 0), some (1, 275, 0, 0), none, none, some (1, 277, 0, 0), some (1, 278, 0, 0), none],
  [none, some (1, 285, 0, 0), some (1, 291, 0, 0), none, none, some (1, 294, 0, 0), some (1, 295, 0, 0), none, none, some (1, 297, 0, 0), some (1, 298, 0, 0), none, none, some (1, 300, 0, 0), some (1, 301, 0, 0), none],
  [none, some (1, 302, 0, 0)]]
def jcpT : Nat → List (List (Option JE)) := fun k => match k with
  | 0 => jp_0
  | 1 => jp_1
  | 2 => jp_2
  | 3 => jp_3
  | 4 => jp_4
  | 5 => jp_5
  | 6 => jp_6
  | 7 => jp_7
  | 8 => jp_8
  | 9 => jp_9
  | 10 => jp_10
  | 11 => jp_11
  | 12 => jp_12
  | 13 => jp_13
  | 14 => jp_14
  | 15 => jp_15
  | 19 => jp_19
  | _ => []
def jcp (own idx : Nat) : Option JE := jtw (jcpT own) idx
def jM (i : Nat) : Option JM := jtw jMT i
theorem jinl {a : Cond} {l r : List Cond} (h : a ∈ l) : a ∈ l ++ r := List.mem_append_left _ h
theorem jinr {a : Cond} {l r : List Cond} (h : a ∈ r) : a ∈ l ++ r := List.mem_append_right _ h
theorem jin_1 : ∀ w ∈ wsL_law_r1, w ∈ wsL_law := fun _ h => jinl (jinl (jinl (jinl (jinl (jinl (jinl (jinl (jinl (jinl (jinl (jinl (jinl (jinl (jinl h))))))))))))))
theorem jin_2 : ∀ w ∈ wsL_law_r2, w ∈ wsL_law := fun _ h => jinl (jinl (jinl (jinl (jinl (jinl (jinl (jinl (jinl (jinl (jinl (jinl (jinl (jinl (jinr (jinl h)))))))))))))))
theorem jin_3 : ∀ w ∈ wsL_law_r3, w ∈ wsL_law := fun _ h => jinl (jinl (jinl (jinl (jinl (jinl (jinl (jinl (jinl (jinl (jinl (jinl (jinl (jinl (jinr (jinr (jinl h))))))))))))))))
theorem jin_4 : ∀ w ∈ wsL_law_r4, w ∈ wsL_law := fun _ h => jinl (jinl (jinl (jinl (jinl (jinl (jinl (jinl (jinl (jinl (jinl (jinl (jinl (jinl (jinr (jinr (jinr (jinl h)))))))))))))))))
theorem jin_5 : ∀ w ∈ wsL_law_r5, w ∈ wsL_law := fun _ h => jinl (jinl (jinl (jinl (jinl (jinl (jinl (jinl (jinl (jinl (jinl (jinl (jinl (jinl (jinr (jinr (jinr (jinr (jinl h))))))))))))))))))
theorem jin_6 : ∀ w ∈ wsL_law_r6, w ∈ wsL_law := fun _ h => jinl (jinl (jinl (jinl (jinl (jinl (jinl (jinl (jinl (jinl (jinl (jinl (jinl (jinl (jinr (jinr (jinr (jinr (jinr (jinl h)))))))))))))))))))
theorem jin_7 : ∀ w ∈ wsL_law_r7, w ∈ wsL_law := fun _ h => jinl (jinl (jinl (jinl (jinl (jinl (jinl (jinl (jinl (jinl (jinl (jinl (jinl (jinl (jinr (jinr (jinr (jinr (jinr (jinr (jinl h))))))))))))))))))))
theorem jin_8 : ∀ w ∈ wsL_law_r8, w ∈ wsL_law := fun _ h => jinl (jinl (jinl (jinl (jinl (jinl (jinl (jinl (jinl (jinl (jinl (jinl (jinl (jinl (jinr (jinr (jinr (jinr (jinr (jinr (jinr (jinl h)))))))))))))))))))))
theorem jin_9 : ∀ w ∈ wsL_law_r9, w ∈ wsL_law := fun _ h => jinl (jinl (jinl (jinl (jinl (jinl (jinl (jinl (jinl (jinl (jinl (jinl (jinl (jinl (jinr (jinr (jinr (jinr (jinr (jinr (jinr (jinr (jinl h))))))))))))))))))))))
theorem jin_10 : ∀ w ∈ wsL_law_r10, w ∈ wsL_law := fun _ h => jinl (jinl (jinl (jinl (jinl (jinl (jinl (jinl (jinl (jinl (jinl (jinl (jinl (jinl (jinr (jinr (jinr (jinr (jinr (jinr (jinr (jinr (jinr (jinl h)))))))))))))))))))))))
theorem jin_11 : ∀ w ∈ wsL_law_r11, w ∈ wsL_law := fun _ h => jinl (jinl (jinl (jinl (jinl (jinl (jinl (jinl (jinl (jinl (jinl (jinl (jinl (jinl (jinr (jinr (jinr (jinr (jinr (jinr (jinr (jinr (jinr (jinr (jinl h))))))))))))))))))))))))
theorem jin_12 : ∀ w ∈ wsL_law_r12, w ∈ wsL_law := fun _ h => jinl (jinl (jinl (jinl (jinl (jinl (jinl (jinl (jinl (jinl (jinl (jinl (jinl (jinl (jinr (jinr (jinr (jinr (jinr (jinr (jinr (jinr (jinr (jinr (jinr (jinl h)))))))))))))))))))))))))
theorem jin_13 : ∀ w ∈ wsL_law_r13, w ∈ wsL_law := fun _ h => jinl (jinl (jinl (jinl (jinl (jinl (jinl (jinl (jinl (jinl (jinl (jinl (jinl (jinl (jinr (jinr (jinr (jinr (jinr (jinr (jinr (jinr (jinr (jinr (jinr (jinr (jinl h))))))))))))))))))))))))))
theorem jin_14 : ∀ w ∈ wsL_law_r14, w ∈ wsL_law := fun _ h => jinl (jinl (jinl (jinl (jinl (jinl (jinl (jinl (jinl (jinl (jinl (jinl (jinl (jinl (jinr (jinr (jinr (jinr (jinr (jinr (jinr (jinr (jinr (jinr (jinr (jinr (jinr (jinl h)))))))))))))))))))))))))))
theorem jin_15 : ∀ w ∈ wsL_law_r15, w ∈ wsL_law := fun _ h => jinl (jinl (jinl (jinl (jinl (jinl (jinl (jinl (jinl (jinl (jinl (jinl (jinl (jinl (jinr (jinr (jinr (jinr (jinr (jinr (jinr (jinr (jinr (jinr (jinr (jinr (jinr (jinr (jinl h))))))))))))))))))))))))))))
theorem jin_16 : ∀ w ∈ wsL_law_r16, w ∈ wsL_law := fun _ h => jinl (jinl (jinl (jinl (jinl (jinl (jinl (jinl (jinl (jinl (jinl (jinl (jinl (jinl (jinr (jinr (jinr (jinr (jinr (jinr (jinr (jinr (jinr (jinr (jinr (jinr (jinr (jinr (jinr (jinl h)))))))))))))))))))))))))))))
theorem jin_17 : ∀ w ∈ wsL_law_r17, w ∈ wsL_law := fun _ h => jinl (jinl (jinl (jinl (jinl (jinl (jinl (jinl (jinl (jinl (jinl (jinl (jinl (jinl (jinr (jinr (jinr (jinr (jinr (jinr (jinr (jinr (jinr (jinr (jinr (jinr (jinr (jinr (jinr (jinr (jinl h))))))))))))))))))))))))))))))
theorem jin_18 : ∀ w ∈ wsL_law_r18, w ∈ wsL_law := fun _ h => jinl (jinl (jinl (jinl (jinl (jinl (jinl (jinl (jinl (jinl (jinl (jinl (jinl (jinl (jinr (jinr (jinr (jinr (jinr (jinr (jinr (jinr (jinr (jinr (jinr (jinr (jinr (jinr (jinr (jinr (jinr (jinl h)))))))))))))))))))))))))))))))
theorem jin_19 : ∀ w ∈ wsL_law_r19, w ∈ wsL_law := fun _ h => jinl (jinl (jinl (jinl (jinl (jinl (jinl (jinl (jinl (jinl (jinl (jinl (jinl (jinl (jinr (jinr (jinr (jinr (jinr (jinr (jinr (jinr (jinr (jinr (jinr (jinr (jinr (jinr (jinr (jinr (jinr (jinr (jinl h))))))))))))))))))))))))))))))))
theorem jin_20 : ∀ w ∈ wsL_law_r20, w ∈ wsL_law := fun _ h => jinl (jinl (jinl (jinl (jinl (jinl (jinl (jinl (jinl (jinl (jinl (jinl (jinl (jinl (jinr (jinr (jinr (jinr (jinr (jinr (jinr (jinr (jinr (jinr (jinr (jinr (jinr (jinr (jinr (jinr (jinr (jinr (jinr (jinl h)))))))))))))))))))))))))))))))))
theorem jin_21 : ∀ w ∈ wsL_law_r21, w ∈ wsL_law := fun _ h => jinl (jinl (jinl (jinl (jinl (jinl (jinl (jinl (jinl (jinl (jinl (jinl (jinl (jinl (jinr (jinr (jinr (jinr (jinr (jinr (jinr (jinr (jinr (jinr (jinr (jinr (jinr (jinr (jinr (jinr (jinr (jinr (jinr (jinr (jinl h))))))))))))))))))))))))))))))))))
theorem jin_22 : ∀ w ∈ wsL_law_r22, w ∈ wsL_law := fun _ h => jinl (jinl (jinl (jinl (jinl (jinl (jinl (jinl (jinl (jinl (jinl (jinl (jinl (jinl (jinr (jinr (jinr (jinr (jinr (jinr (jinr (jinr (jinr (jinr (jinr (jinr (jinr (jinr (jinr (jinr (jinr (jinr (jinr (jinr (jinr (jinl h)))))))))))))))))))))))))))))))))))
theorem jin_23 : ∀ w ∈ wsL_law_r23, w ∈ wsL_law := fun _ h => jinl (jinl (jinl (jinl (jinl (jinl (jinl (jinl (jinl (jinl (jinl (jinl (jinl (jinl (jinr (jinr (jinr (jinr (jinr (jinr (jinr (jinr (jinr (jinr (jinr (jinr (jinr (jinr (jinr (jinr (jinr (jinr (jinr (jinr (jinr (jinr (jinl h))))))))))))))))))))))))))))))))))))
theorem jin_24 : ∀ w ∈ wsL_law_r24, w ∈ wsL_law := fun _ h => jinl (jinl (jinl (jinl (jinl (jinl (jinl (jinl (jinl (jinl (jinl (jinl (jinl (jinl (jinr (jinr (jinr (jinr (jinr (jinr (jinr (jinr (jinr (jinr (jinr (jinr (jinr (jinr (jinr (jinr (jinr (jinr (jinr (jinr (jinr (jinr (jinr (jinl h)))))))))))))))))))))))))))))))))))))
theorem jin_25 : ∀ w ∈ wsL_law_r25, w ∈ wsL_law := fun _ h => jinl (jinl (jinl (jinl (jinl (jinl (jinl (jinl (jinl (jinl (jinl (jinl (jinl (jinl (jinr (jinr (jinr (jinr (jinr (jinr (jinr (jinr (jinr (jinr (jinr (jinr (jinr (jinr (jinr (jinr (jinr (jinr (jinr (jinr (jinr (jinr (jinr (jinr (jinl h))))))))))))))))))))))))))))))))))))))
theorem jin_26 : ∀ w ∈ wsL_law_r26, w ∈ wsL_law := fun _ h => jinl (jinl (jinl (jinl (jinl (jinl (jinl (jinl (jinl (jinl (jinl (jinl (jinl (jinl (jinr (jinr (jinr (jinr (jinr (jinr (jinr (jinr (jinr (jinr (jinr (jinr (jinr (jinr (jinr (jinr (jinr (jinr (jinr (jinr (jinr (jinr (jinr (jinr (jinr (jinl h)))))))))))))))))))))))))))))))))))))))
theorem jin_27 : ∀ w ∈ wsL_law_r27, w ∈ wsL_law := fun _ h => jinl (jinl (jinl (jinl (jinl (jinl (jinl (jinl (jinl (jinl (jinl (jinl (jinl (jinl (jinr (jinr (jinr (jinr (jinr (jinr (jinr (jinr (jinr (jinr (jinr (jinr (jinr (jinr (jinr (jinr (jinr (jinr (jinr (jinr (jinr (jinr (jinr (jinr (jinr (jinr (jinl h))))))))))))))))))))))))))))))))))))))))
theorem jin_28 : ∀ w ∈ wsL_law_r28, w ∈ wsL_law := fun _ h => jinl (jinl (jinl (jinl (jinl (jinl (jinl (jinl (jinl (jinl (jinl (jinl (jinl (jinl (jinr (jinr (jinr (jinr (jinr (jinr (jinr (jinr (jinr (jinr (jinr (jinr (jinr (jinr (jinr (jinr (jinr (jinr (jinr (jinr (jinr (jinr (jinr (jinr (jinr (jinr (jinr (jinl h)))))))))))))))))))))))))))))))))))))))))
theorem jin_29 : ∀ w ∈ wsL_law_r29, w ∈ wsL_law := fun _ h => jinl (jinl (jinl (jinl (jinl (jinl (jinl (jinl (jinl (jinl (jinl (jinl (jinl (jinl (jinr (jinr (jinr (jinr (jinr (jinr (jinr (jinr (jinr (jinr (jinr (jinr (jinr (jinr (jinr (jinr (jinr (jinr (jinr (jinr (jinr (jinr (jinr (jinr (jinr (jinr (jinr (jinr (jinl h))))))))))))))))))))))))))))))))))))))))))
theorem jin_30 : ∀ w ∈ wsL_law_r30, w ∈ wsL_law := fun _ h => jinl (jinl (jinl (jinl (jinl (jinl (jinl (jinl (jinl (jinl (jinl (jinl (jinl (jinl (jinr (jinr (jinr (jinr (jinr (jinr (jinr (jinr (jinr (jinr (jinr (jinr (jinr (jinr (jinr (jinr (jinr (jinr (jinr (jinr (jinr (jinr (jinr (jinr (jinr (jinr (jinr (jinr (jinr (jinl h)))))))))))))))))))))))))))))))))))))))))))
theorem jin_31 : ∀ w ∈ wsL_law_r31, w ∈ wsL_law := fun _ h => jinl (jinl (jinl (jinl (jinl (jinl (jinl (jinl (jinl (jinl (jinl (jinl (jinl (jinl (jinr (jinr (jinr (jinr (jinr (jinr (jinr (jinr (jinr (jinr (jinr (jinr (jinr (jinr (jinr (jinr (jinr (jinr (jinr (jinr (jinr (jinr (jinr (jinr (jinr (jinr (jinr (jinr (jinr (jinr (jinl h))))))))))))))))))))))))))))))))))))))))))))
theorem jin_32 : ∀ w ∈ wsL_law_r32, w ∈ wsL_law := fun _ h => jinl (jinl (jinl (jinl (jinl (jinl (jinl (jinl (jinl (jinl (jinl (jinl (jinl (jinl (jinr (jinr (jinr (jinr (jinr (jinr (jinr (jinr (jinr (jinr (jinr (jinr (jinr (jinr (jinr (jinr (jinr (jinr (jinr (jinr (jinr (jinr (jinr (jinr (jinr (jinr (jinr (jinr (jinr (jinr (jinr (jinl h)))))))))))))))))))))))))))))))))))))))))))))
theorem jin_33 : ∀ w ∈ wsL_law_r33, w ∈ wsL_law := fun _ h => jinl (jinl (jinl (jinl (jinl (jinl (jinl (jinl (jinl (jinl (jinl (jinl (jinl (jinl (jinr (jinr (jinr (jinr (jinr (jinr (jinr (jinr (jinr (jinr (jinr (jinr (jinr (jinr (jinr (jinr (jinr (jinr (jinr (jinr (jinr (jinr (jinr (jinr (jinr (jinr (jinr (jinr (jinr (jinr (jinr (jinr (jinl h))))))))))))))))))))))))))))))))))))))))))))))
theorem jin_34 : ∀ w ∈ wsL_law_r34, w ∈ wsL_law := fun _ h => jinl (jinl (jinl (jinl (jinl (jinl (jinl (jinl (jinl (jinl (jinl (jinl (jinl (jinl (jinr (jinr (jinr (jinr (jinr (jinr (jinr (jinr (jinr (jinr (jinr (jinr (jinr (jinr (jinr (jinr (jinr (jinr (jinr (jinr (jinr (jinr (jinr (jinr (jinr (jinr (jinr (jinr (jinr (jinr (jinr (jinr (jinr (jinl h)))))))))))))))))))))))))))))))))))))))))))))))
theorem jin_35 : ∀ w ∈ wsL_law_r35, w ∈ wsL_law := fun _ h => jinl (jinl (jinl (jinl (jinl (jinl (jinl (jinl (jinl (jinl (jinl (jinl (jinl (jinl (jinr (jinr (jinr (jinr (jinr (jinr (jinr (jinr (jinr (jinr (jinr (jinr (jinr (jinr (jinr (jinr (jinr (jinr (jinr (jinr (jinr (jinr (jinr (jinr (jinr (jinr (jinr (jinr (jinr (jinr (jinr (jinr (jinr (jinr (jinl h))))))))))))))))))))))))))))))))))))))))))))))))
theorem jin_36 : ∀ w ∈ wsL_law_r36, w ∈ wsL_law := fun _ h => jinl (jinl (jinl (jinl (jinl (jinl (jinl (jinl (jinl (jinl (jinl (jinl (jinl (jinl (jinr (jinr (jinr (jinr (jinr (jinr (jinr (jinr (jinr (jinr (jinr (jinr (jinr (jinr (jinr (jinr (jinr (jinr (jinr (jinr (jinr (jinr (jinr (jinr (jinr (jinr (jinr (jinr (jinr (jinr (jinr (jinr (jinr (jinr (jinr (jinl h)))))))))))))))))))))))))))))))))))))))))))))))))
theorem jin_37 : ∀ w ∈ wsL_law_r37, w ∈ wsL_law := fun _ h => jinl (jinl (jinl (jinl (jinl (jinl (jinl (jinl (jinl (jinl (jinl (jinl (jinl (jinl (jinr (jinr (jinr (jinr (jinr (jinr (jinr (jinr (jinr (jinr (jinr (jinr (jinr (jinr (jinr (jinr (jinr (jinr (jinr (jinr (jinr (jinr (jinr (jinr (jinr (jinr (jinr (jinr (jinr (jinr (jinr (jinr (jinr (jinr (jinr (jinr (jinl h))))))))))))))))))))))))))))))))))))))))))))))))))
theorem jin_38 : ∀ w ∈ wsL_law_r38, w ∈ wsL_law := fun _ h => jinl (jinl (jinl (jinl (jinl (jinl (jinl (jinl (jinl (jinl (jinl (jinl (jinl (jinl (jinr (jinr (jinr (jinr (jinr (jinr (jinr (jinr (jinr (jinr (jinr (jinr (jinr (jinr (jinr (jinr (jinr (jinr (jinr (jinr (jinr (jinr (jinr (jinr (jinr (jinr (jinr (jinr (jinr (jinr (jinr (jinr (jinr (jinr (jinr (jinr (jinr (jinl h)))))))))))))))))))))))))))))))))))))))))))))))))))
theorem jin_39 : ∀ w ∈ wsL_law_r39, w ∈ wsL_law := fun _ h => jinl (jinl (jinl (jinl (jinl (jinl (jinl (jinl (jinl (jinl (jinl (jinl (jinl (jinl (jinr (jinr (jinr (jinr (jinr (jinr (jinr (jinr (jinr (jinr (jinr (jinr (jinr (jinr (jinr (jinr (jinr (jinr (jinr (jinr (jinr (jinr (jinr (jinr (jinr (jinr (jinr (jinr (jinr (jinr (jinr (jinr (jinr (jinr (jinr (jinr (jinr (jinr (jinl h))))))))))))))))))))))))))))))))))))))))))))))))))))
theorem jin_40 : ∀ w ∈ wsL_law_r40, w ∈ wsL_law := fun _ h => jinl (jinl (jinl (jinl (jinl (jinl (jinl (jinl (jinl (jinl (jinl (jinl (jinl (jinl (jinr (jinr (jinr (jinr (jinr (jinr (jinr (jinr (jinr (jinr (jinr (jinr (jinr (jinr (jinr (jinr (jinr (jinr (jinr (jinr (jinr (jinr (jinr (jinr (jinr (jinr (jinr (jinr (jinr (jinr (jinr (jinr (jinr (jinr (jinr (jinr (jinr (jinr (jinr (jinl h)))))))))))))))))))))))))))))))))))))))))))))))))))))
theorem jin_41 : ∀ w ∈ wsL_law_r41, w ∈ wsL_law := fun _ h => jinl (jinl (jinl (jinl (jinl (jinl (jinl (jinl (jinl (jinl (jinl (jinl (jinl (jinl (jinr (jinr (jinr (jinr (jinr (jinr (jinr (jinr (jinr (jinr (jinr (jinr (jinr (jinr (jinr (jinr (jinr (jinr (jinr (jinr (jinr (jinr (jinr (jinr (jinr (jinr (jinr (jinr (jinr (jinr (jinr (jinr (jinr (jinr (jinr (jinr (jinr (jinr (jinr (jinr (jinl h))))))))))))))))))))))))))))))))))))))))))))))))))))))
theorem jin_42 : ∀ w ∈ wsL_law_r42, w ∈ wsL_law := fun _ h => jinl (jinl (jinl (jinl (jinl (jinl (jinl (jinl (jinl (jinl (jinl (jinl (jinl (jinl (jinr (jinr (jinr (jinr (jinr (jinr (jinr (jinr (jinr (jinr (jinr (jinr (jinr (jinr (jinr (jinr (jinr (jinr (jinr (jinr (jinr (jinr (jinr (jinr (jinr (jinr (jinr (jinr (jinr (jinr (jinr (jinr (jinr (jinr (jinr (jinr (jinr (jinr (jinr (jinr (jinr (jinl h)))))))))))))))))))))))))))))))))))))))))))))))))))))))
theorem jin_43 : ∀ w ∈ wsL_law_r43, w ∈ wsL_law := fun _ h => jinl (jinl (jinl (jinl (jinl (jinl (jinl (jinl (jinl (jinl (jinl (jinl (jinl (jinl (jinr (jinr (jinr (jinr (jinr (jinr (jinr (jinr (jinr (jinr (jinr (jinr (jinr (jinr (jinr (jinr (jinr (jinr (jinr (jinr (jinr (jinr (jinr (jinr (jinr (jinr (jinr (jinr (jinr (jinr (jinr (jinr (jinr (jinr (jinr (jinr (jinr (jinr (jinr (jinr (jinr (jinr (jinl h))))))))))))))))))))))))))))))))))))))))))))))))))))))))
theorem jin_44 : ∀ w ∈ wsL_law_r44, w ∈ wsL_law := fun _ h => jinl (jinl (jinl (jinl (jinl (jinl (jinl (jinl (jinl (jinl (jinl (jinl (jinl (jinl (jinr (jinr (jinr (jinr (jinr (jinr (jinr (jinr (jinr (jinr (jinr (jinr (jinr (jinr (jinr (jinr (jinr (jinr (jinr (jinr (jinr (jinr (jinr (jinr (jinr (jinr (jinr (jinr (jinr (jinr (jinr (jinr (jinr (jinr (jinr (jinr (jinr (jinr (jinr (jinr (jinr (jinr (jinr (jinl h)))))))))))))))))))))))))))))))))))))))))))))))))))))))))
theorem jin_45 : ∀ w ∈ wsL_law_r45, w ∈ wsL_law := fun _ h => jinl (jinl (jinl (jinl (jinl (jinl (jinl (jinl (jinl (jinl (jinl (jinl (jinl (jinl (jinr (jinr (jinr (jinr (jinr (jinr (jinr (jinr (jinr (jinr (jinr (jinr (jinr (jinr (jinr (jinr (jinr (jinr (jinr (jinr (jinr (jinr (jinr (jinr (jinr (jinr (jinr (jinr (jinr (jinr (jinr (jinr (jinr (jinr (jinr (jinr (jinr (jinr (jinr (jinr (jinr (jinr (jinr (jinr (jinl h))))))))))))))))))))))))))))))))))))))))))))))))))))))))))
theorem jin_46 : ∀ w ∈ wsL_law_r46, w ∈ wsL_law := fun _ h => jinl (jinl (jinl (jinl (jinl (jinl (jinl (jinl (jinl (jinl (jinl (jinl (jinl (jinl (jinr (jinr (jinr (jinr (jinr (jinr (jinr (jinr (jinr (jinr (jinr (jinr (jinr (jinr (jinr (jinr (jinr (jinr (jinr (jinr (jinr (jinr (jinr (jinr (jinr (jinr (jinr (jinr (jinr (jinr (jinr (jinr (jinr (jinr (jinr (jinr (jinr (jinr (jinr (jinr (jinr (jinr (jinr (jinr (jinr (jinl h)))))))))))))))))))))))))))))))))))))))))))))))))))))))))))
theorem jin_47 : ∀ w ∈ wsL_law_r47, w ∈ wsL_law := fun _ h => jinl (jinl (jinl (jinl (jinl (jinl (jinl (jinl (jinl (jinl (jinl (jinl (jinl (jinl (jinr (jinr (jinr (jinr (jinr (jinr (jinr (jinr (jinr (jinr (jinr (jinr (jinr (jinr (jinr (jinr (jinr (jinr (jinr (jinr (jinr (jinr (jinr (jinr (jinr (jinr (jinr (jinr (jinr (jinr (jinr (jinr (jinr (jinr (jinr (jinr (jinr (jinr (jinr (jinr (jinr (jinr (jinr (jinr (jinr (jinr (jinl h))))))))))))))))))))))))))))))))))))))))))))))))))))))))))))
theorem jin_48 : ∀ w ∈ wsL_law_r48, w ∈ wsL_law := fun _ h => jinl (jinl (jinl (jinl (jinl (jinl (jinl (jinl (jinl (jinl (jinl (jinl (jinl (jinl (jinr (jinr (jinr (jinr (jinr (jinr (jinr (jinr (jinr (jinr (jinr (jinr (jinr (jinr (jinr (jinr (jinr (jinr (jinr (jinr (jinr (jinr (jinr (jinr (jinr (jinr (jinr (jinr (jinr (jinr (jinr (jinr (jinr (jinr (jinr (jinr (jinr (jinr (jinr (jinr (jinr (jinr (jinr (jinr (jinr (jinr (jinr (jinl h)))))))))))))))))))))))))))))))))))))))))))))))))))))))))))))
theorem jin_49 : ∀ w ∈ wsL_law_r49, w ∈ wsL_law := fun _ h => jinl (jinl (jinl (jinl (jinl (jinl (jinl (jinl (jinl (jinl (jinl (jinl (jinl (jinl (jinr (jinr (jinr (jinr (jinr (jinr (jinr (jinr (jinr (jinr (jinr (jinr (jinr (jinr (jinr (jinr (jinr (jinr (jinr (jinr (jinr (jinr (jinr (jinr (jinr (jinr (jinr (jinr (jinr (jinr (jinr (jinr (jinr (jinr (jinr (jinr (jinr (jinr (jinr (jinr (jinr (jinr (jinr (jinr (jinr (jinr (jinr (jinr (jinl h))))))))))))))))))))))))))))))))))))))))))))))))))))))))))))))
theorem jin_50 : ∀ w ∈ wsL_law_r50, w ∈ wsL_law := fun _ h => jinl (jinl (jinl (jinl (jinl (jinl (jinl (jinl (jinl (jinl (jinl (jinl (jinl (jinl (jinr (jinr (jinr (jinr (jinr (jinr (jinr (jinr (jinr (jinr (jinr (jinr (jinr (jinr (jinr (jinr (jinr (jinr (jinr (jinr (jinr (jinr (jinr (jinr (jinr (jinr (jinr (jinr (jinr (jinr (jinr (jinr (jinr (jinr (jinr (jinr (jinr (jinr (jinr (jinr (jinr (jinr (jinr (jinr (jinr (jinr (jinr (jinr (jinr (jinl h)))))))))))))))))))))))))))))))))))))))))))))))))))))))))))))))
theorem jin_51 : ∀ w ∈ wsL_law_r51, w ∈ wsL_law := fun _ h => jinl (jinl (jinl (jinl (jinl (jinl (jinl (jinl (jinl (jinl (jinl (jinl (jinl (jinl (jinr (jinr (jinr (jinr (jinr (jinr (jinr (jinr (jinr (jinr (jinr (jinr (jinr (jinr (jinr (jinr (jinr (jinr (jinr (jinr (jinr (jinr (jinr (jinr (jinr (jinr (jinr (jinr (jinr (jinr (jinr (jinr (jinr (jinr (jinr (jinr (jinr (jinr (jinr (jinr (jinr (jinr (jinr (jinr (jinr (jinr (jinr (jinr (jinr (jinr (jinl h))))))))))))))))))))))))))))))))))))))))))))))))))))))))))))))))
theorem jin_52 : ∀ w ∈ wsL_law_r52, w ∈ wsL_law := fun _ h => jinl (jinl (jinl (jinl (jinl (jinl (jinl (jinl (jinl (jinl (jinl (jinl (jinl (jinl (jinr (jinr (jinr (jinr (jinr (jinr (jinr (jinr (jinr (jinr (jinr (jinr (jinr (jinr (jinr (jinr (jinr (jinr (jinr (jinr (jinr (jinr (jinr (jinr (jinr (jinr (jinr (jinr (jinr (jinr (jinr (jinr (jinr (jinr (jinr (jinr (jinr (jinr (jinr (jinr (jinr (jinr (jinr (jinr (jinr (jinr (jinr (jinr (jinr (jinr (jinr (jinl h)))))))))))))))))))))))))))))))))))))))))))))))))))))))))))))))))
theorem jin_53 : ∀ w ∈ wsL_law_r53, w ∈ wsL_law := fun _ h => jinl (jinl (jinl (jinl (jinl (jinl (jinl (jinl (jinl (jinl (jinl (jinl (jinl (jinl (jinr (jinr (jinr (jinr (jinr (jinr (jinr (jinr (jinr (jinr (jinr (jinr (jinr (jinr (jinr (jinr (jinr (jinr (jinr (jinr (jinr (jinr (jinr (jinr (jinr (jinr (jinr (jinr (jinr (jinr (jinr (jinr (jinr (jinr (jinr (jinr (jinr (jinr (jinr (jinr (jinr (jinr (jinr (jinr (jinr (jinr (jinr (jinr (jinr (jinr (jinr (jinr (jinl h))))))))))))))))))))))))))))))))))))))))))))))))))))))))))))))))))
theorem jin_54 : ∀ w ∈ wsL_law_r54, w ∈ wsL_law := fun _ h => jinl (jinl (jinl (jinl (jinl (jinl (jinl (jinl (jinl (jinl (jinl (jinl (jinl (jinl (jinr (jinr (jinr (jinr (jinr (jinr (jinr (jinr (jinr (jinr (jinr (jinr (jinr (jinr (jinr (jinr (jinr (jinr (jinr (jinr (jinr (jinr (jinr (jinr (jinr (jinr (jinr (jinr (jinr (jinr (jinr (jinr (jinr (jinr (jinr (jinr (jinr (jinr (jinr (jinr (jinr (jinr (jinr (jinr (jinr (jinr (jinr (jinr (jinr (jinr (jinr (jinr (jinr (jinl h)))))))))))))))))))))))))))))))))))))))))))))))))))))))))))))))))))
theorem jin_55 : ∀ w ∈ wsL_law_r55, w ∈ wsL_law := fun _ h => jinl (jinl (jinl (jinl (jinl (jinl (jinl (jinl (jinl (jinl (jinl (jinl (jinl (jinl (jinr (jinr (jinr (jinr (jinr (jinr (jinr (jinr (jinr (jinr (jinr (jinr (jinr (jinr (jinr (jinr (jinr (jinr (jinr (jinr (jinr (jinr (jinr (jinr (jinr (jinr (jinr (jinr (jinr (jinr (jinr (jinr (jinr (jinr (jinr (jinr (jinr (jinr (jinr (jinr (jinr (jinr (jinr (jinr (jinr (jinr (jinr (jinr (jinr (jinr (jinr (jinr (jinr (jinr (jinl h))))))))))))))))))))))))))))))))))))))))))))))))))))))))))))))))))))
theorem jin_56 : ∀ w ∈ wsL_law_r56, w ∈ wsL_law := fun _ h => jinl (jinl (jinl (jinl (jinl (jinl (jinl (jinl (jinl (jinl (jinl (jinl (jinl (jinl (jinr (jinr (jinr (jinr (jinr (jinr (jinr (jinr (jinr (jinr (jinr (jinr (jinr (jinr (jinr (jinr (jinr (jinr (jinr (jinr (jinr (jinr (jinr (jinr (jinr (jinr (jinr (jinr (jinr (jinr (jinr (jinr (jinr (jinr (jinr (jinr (jinr (jinr (jinr (jinr (jinr (jinr (jinr (jinr (jinr (jinr (jinr (jinr (jinr (jinr (jinr (jinr (jinr (jinr (jinr (jinl h)))))))))))))))))))))))))))))))))))))))))))))))))))))))))))))))))))))
theorem jin_57 : ∀ w ∈ wsL_law_r57, w ∈ wsL_law := fun _ h => jinl (jinl (jinl (jinl (jinl (jinl (jinl (jinl (jinl (jinl (jinl (jinl (jinl (jinl (jinr (jinr (jinr (jinr (jinr (jinr (jinr (jinr (jinr (jinr (jinr (jinr (jinr (jinr (jinr (jinr (jinr (jinr (jinr (jinr (jinr (jinr (jinr (jinr (jinr (jinr (jinr (jinr (jinr (jinr (jinr (jinr (jinr (jinr (jinr (jinr (jinr (jinr (jinr (jinr (jinr (jinr (jinr (jinr (jinr (jinr (jinr (jinr (jinr (jinr (jinr (jinr (jinr (jinr (jinr (jinr (jinl h))))))))))))))))))))))))))))))))))))))))))))))))))))))))))))))))))))))
theorem jin_58 : ∀ w ∈ wsL_law_r58, w ∈ wsL_law := fun _ h => jinl (jinl (jinl (jinl (jinl (jinl (jinl (jinl (jinl (jinl (jinl (jinl (jinl (jinl (jinr (jinr (jinr (jinr (jinr (jinr (jinr (jinr (jinr (jinr (jinr (jinr (jinr (jinr (jinr (jinr (jinr (jinr (jinr (jinr (jinr (jinr (jinr (jinr (jinr (jinr (jinr (jinr (jinr (jinr (jinr (jinr (jinr (jinr (jinr (jinr (jinr (jinr (jinr (jinr (jinr (jinr (jinr (jinr (jinr (jinr (jinr (jinr (jinr (jinr (jinr (jinr (jinr (jinr (jinr (jinr (jinr (jinl h)))))))))))))))))))))))))))))))))))))))))))))))))))))))))))))))))))))))
theorem jin_59 : ∀ w ∈ wsL_law_r59, w ∈ wsL_law := fun _ h => jinl (jinl (jinl (jinl (jinl (jinl (jinl (jinl (jinl (jinl (jinl (jinl (jinl (jinl (jinr (jinr (jinr (jinr (jinr (jinr (jinr (jinr (jinr (jinr (jinr (jinr (jinr (jinr (jinr (jinr (jinr (jinr (jinr (jinr (jinr (jinr (jinr (jinr (jinr (jinr (jinr (jinr (jinr (jinr (jinr (jinr (jinr (jinr (jinr (jinr (jinr (jinr (jinr (jinr (jinr (jinr (jinr (jinr (jinr (jinr (jinr (jinr (jinr (jinr (jinr (jinr (jinr (jinr (jinr (jinr (jinr (jinr (jinl h))))))))))))))))))))))))))))))))))))))))))))))))))))))))))))))))))))))))
theorem jin_60 : ∀ w ∈ wsL_law_r60, w ∈ wsL_law := fun _ h => jinl (jinl (jinl (jinl (jinl (jinl (jinl (jinl (jinl (jinl (jinl (jinl (jinl (jinl (jinr (jinr (jinr (jinr (jinr (jinr (jinr (jinr (jinr (jinr (jinr (jinr (jinr (jinr (jinr (jinr (jinr (jinr (jinr (jinr (jinr (jinr (jinr (jinr (jinr (jinr (jinr (jinr (jinr (jinr (jinr (jinr (jinr (jinr (jinr (jinr (jinr (jinr (jinr (jinr (jinr (jinr (jinr (jinr (jinr (jinr (jinr (jinr (jinr (jinr (jinr (jinr (jinr (jinr (jinr (jinr (jinr (jinr (jinr (jinl h)))))))))))))))))))))))))))))))))))))))))))))))))))))))))))))))))))))))))
theorem jin_61 : ∀ w ∈ wsL_law_r61, w ∈ wsL_law := fun _ h => jinl (jinl (jinl (jinl (jinl (jinl (jinl (jinl (jinl (jinl (jinl (jinl (jinl (jinl (jinr (jinr (jinr (jinr (jinr (jinr (jinr (jinr (jinr (jinr (jinr (jinr (jinr (jinr (jinr (jinr (jinr (jinr (jinr (jinr (jinr (jinr (jinr (jinr (jinr (jinr (jinr (jinr (jinr (jinr (jinr (jinr (jinr (jinr (jinr (jinr (jinr (jinr (jinr (jinr (jinr (jinr (jinr (jinr (jinr (jinr (jinr (jinr (jinr (jinr (jinr (jinr (jinr (jinr (jinr (jinr (jinr (jinr (jinr (jinr (jinl h))))))))))))))))))))))))))))))))))))))))))))))))))))))))))))))))))))))))))
theorem jin_62 : ∀ w ∈ wsL_law_r62, w ∈ wsL_law := fun _ h => jinl (jinl (jinl (jinl (jinl (jinl (jinl (jinl (jinl (jinl (jinl (jinl (jinl (jinl (jinr (jinr (jinr (jinr (jinr (jinr (jinr (jinr (jinr (jinr (jinr (jinr (jinr (jinr (jinr (jinr (jinr (jinr (jinr (jinr (jinr (jinr (jinr (jinr (jinr (jinr (jinr (jinr (jinr (jinr (jinr (jinr (jinr (jinr (jinr (jinr (jinr (jinr (jinr (jinr (jinr (jinr (jinr (jinr (jinr (jinr (jinr (jinr (jinr (jinr (jinr (jinr (jinr (jinr (jinr (jinr (jinr (jinr (jinr (jinr (jinr (jinl h)))))))))))))))))))))))))))))))))))))))))))))))))))))))))))))))))))))))))))
theorem jin_63 : ∀ w ∈ wsL_law_r63, w ∈ wsL_law := fun _ h => jinl (jinl (jinl (jinl (jinl (jinl (jinl (jinl (jinl (jinl (jinl (jinl (jinl (jinl (jinr (jinr (jinr (jinr (jinr (jinr (jinr (jinr (jinr (jinr (jinr (jinr (jinr (jinr (jinr (jinr (jinr (jinr (jinr (jinr (jinr (jinr (jinr (jinr (jinr (jinr (jinr (jinr (jinr (jinr (jinr (jinr (jinr (jinr (jinr (jinr (jinr (jinr (jinr (jinr (jinr (jinr (jinr (jinr (jinr (jinr (jinr (jinr (jinr (jinr (jinr (jinr (jinr (jinr (jinr (jinr (jinr (jinr (jinr (jinr (jinr (jinr (jinl h))))))))))))))))))))))))))))))))))))))))))))))))))))))))))))))))))))))))))))
theorem jin_64 : ∀ w ∈ wsL_law_r64, w ∈ wsL_law := fun _ h => jinl (jinl (jinl (jinl (jinl (jinl (jinl (jinl (jinl (jinl (jinl (jinl (jinl (jinl (jinr (jinr (jinr (jinr (jinr (jinr (jinr (jinr (jinr (jinr (jinr (jinr (jinr (jinr (jinr (jinr (jinr (jinr (jinr (jinr (jinr (jinr (jinr (jinr (jinr (jinr (jinr (jinr (jinr (jinr (jinr (jinr (jinr (jinr (jinr (jinr (jinr (jinr (jinr (jinr (jinr (jinr (jinr (jinr (jinr (jinr (jinr (jinr (jinr (jinr (jinr (jinr (jinr (jinr (jinr (jinr (jinr (jinr (jinr (jinr (jinr (jinr (jinr (jinl h)))))))))))))))))))))))))))))))))))))))))))))))))))))))))))))))))))))))))))))
theorem jin_65 : ∀ w ∈ wsL_law_r65, w ∈ wsL_law := fun _ h => jinl (jinl (jinl (jinl (jinl (jinl (jinl (jinl (jinl (jinl (jinl (jinl (jinl (jinl (jinr (jinr (jinr (jinr (jinr (jinr (jinr (jinr (jinr (jinr (jinr (jinr (jinr (jinr (jinr (jinr (jinr (jinr (jinr (jinr (jinr (jinr (jinr (jinr (jinr (jinr (jinr (jinr (jinr (jinr (jinr (jinr (jinr (jinr (jinr (jinr (jinr (jinr (jinr (jinr (jinr (jinr (jinr (jinr (jinr (jinr (jinr (jinr (jinr (jinr (jinr (jinr (jinr (jinr (jinr (jinr (jinr (jinr (jinr (jinr (jinr (jinr (jinr (jinr h)))))))))))))))))))))))))))))))))))))))))))))))))))))))))))))))))))))))))))))
def jstr : List String := ["let", "repeat", "end", "if", "surely", "else", "square", "cube", "root", "third", "over"]
/-- what the tables say of an entry of the class own -/
def jeOK (own : String) (idx : Nat) (e : JE) : Prop := match e.1 with
  | 0 => ∃ q : vw_C, vwCl[e.2.1]? = some q ∧ e.2.2.1 < q.2.2 ∧ Cond.fieldLink own idx (q.2.1 e.2.2.1).1 (q.2.1 e.2.2.1).2.1 (q.2.1 e.2.2.1).2.2.1 ∈ wsL_law
  | 1 | 2 | 3 => match jM e.2.1 with
    | some M => Cond.methodLink own idx M.y ∈ wsL_law
    | none => False
  | 4 => own = RX7 ∧ idx = 30 ∧ jM e.2.1 = some jm_X10_init
  | 5 => Cond.methodLink own idx objectInit ∈ wsL_law
  | 6 => Cond.methodLink own idx arraycopyName ∈ wsL_law
  | 7 => Cond.constant own idx (Int32.ofInt e.2.2.2) ∈ wsL_law
  | 8 => Cond.constantLong own idx (Int64.ofInt e.2.2.2) ∈ wsL_law
  | 9 => own = RX9 ∧ (Cond.stringRef own idx (jstr.getD e.2.1 "")) ∈ lw_tbl ∧ e.2.1 < 11
  | 10 => ∃ q : vw_C, vwCl[e.2.1]? = some q ∧ Cond.classLink own idx q.1 ∈ wsL_law
  | 11 => match e.2.1 with
    | 0 => Cond.fieldLink own idx RX8 "STEPS" "[I" ∈ wsL_law
    | 1 => Cond.fieldLink own idx RJ0 "COMPACT_STRINGS" "Z" ∈ wsL_law
    | 2 => Cond.fieldLink own idx RJ3 "SIOOBE_FORMATTER" "Ljava/util/function/BiFunction;" ∈ wsL_law
    | _ => False
  | 12 => match e.2.1 with
    | 0 => Cond.fieldLink own idx RJ0 "value" "[B" ∈ wsL_law
    | 1 => Cond.fieldLink own idx RJ0 "coder" "B" ∈ wsL_law
    | _ => False
  | _ => False
theorem jq_0_5 : jeOK (jcn 0) 5 (5, 0, 0, 0) := (jin_9 _ (List.mem_of_getElem? (i := 20) rfl))
theorem jq_0_11 : jeOK (jcn 0) 11 (0, 0, 0, 0) := ⟨_, rfl, by decide, (jin_9 _ (List.mem_of_getElem? (i := 21) rfl))⟩
theorem jq_0_15 : jeOK (jcn 0) 15 (0, 0, 1, 0) := ⟨_, rfl, by decide, (jin_9 _ (List.mem_of_getElem? (i := 22) rfl))⟩
theorem jq_0_18 : jeOK (jcn 0) 18 (0, 0, 2, 0) := ⟨_, rfl, by decide, (jin_9 _ (List.mem_of_getElem? (i := 23) rfl))⟩
theorem jq_0_21 : jeOK (jcn 0) 21 (0, 0, 3, 0) := ⟨_, rfl, by decide, (jin_10 _ (List.mem_of_getElem? (i := 0) rfl))⟩
theorem jq_0_24 : jeOK (jcn 0) 24 (0, 0, 4, 0) := ⟨_, rfl, by decide, (jin_10 _ (List.mem_of_getElem? (i := 1) rfl))⟩
theorem jq_0_27 : jeOK (jcn 0) 27 (0, 0, 6, 0) := ⟨_, rfl, by decide, (jin_10 _ (List.mem_of_getElem? (i := 2) rfl))⟩
theorem jq_0_31 : jeOK (jcn 0) 31 (0, 0, 7, 0) := ⟨_, rfl, by decide, (jin_10 _ (List.mem_of_getElem? (i := 3) rfl))⟩
theorem jq_0_34 : jeOK (jcn 0) 34 (0, 0, 8, 0) := ⟨_, rfl, by decide, (jin_10 _ (List.mem_of_getElem? (i := 4) rfl))⟩
theorem jq_0_37 : jeOK (jcn 0) 37 (0, 0, 10, 0) := ⟨_, rfl, by decide, (jin_10 _ (List.mem_of_getElem? (i := 5) rfl))⟩
theorem jq_0_40 : jeOK (jcn 0) 40 (2, 272, 0, 0) := (jin_60 _ (List.mem_of_getElem? (i := 4) rfl))
theorem jq_0_46 : jeOK (jcn 0) 46 (0, 0, 5, 0) := ⟨_, rfl, by decide, (jin_60 _ (List.mem_of_getElem? (i := 12) rfl))⟩
theorem jq_0_50 : jeOK (jcn 0) 50 (1, 281, 0, 0) := (jin_61 _ (List.mem_of_getElem? (i := 23) rfl))
theorem jq_0_54 : jeOK (jcn 0) 54 (2, 180, 0, 0) := (jin_61 _ (List.mem_of_getElem? (i := 20) rfl))
theorem jq_0_60 : jeOK (jcn 0) 60 (0, 0, 9, 0) := ⟨_, rfl, by decide, (jin_61 _ (List.mem_of_getElem? (i := 21) rfl))⟩
theorem jq_0_63 : jeOK (jcn 0) 63 (2, 125, 0, 0) := (jin_61 _ (List.mem_of_getElem? (i := 22) rfl))
theorem jq_0_66 : jeOK (jcn 0) 66 (1, 282, 0, 0) := (jin_62 _ (List.mem_of_getElem? (i := 3) rfl))
theorem jq_0_70 : jeOK (jcn 0) 70 (2, 283, 0, 0) := (jin_62 _ (List.mem_of_getElem? (i := 7) rfl))
theorem jq_0_73 : jeOK (jcn 0) 73 (1, 293, 0, 0) := (jin_64 _ (List.mem_of_getElem? (i := 16) rfl))
theorem jo_0 : jall (jeOK (jcn 0)) 0 jp_0 := ⟨⟨jq_0_5, jq_0_11, jq_0_15, trivial⟩, ⟨jq_0_18, jq_0_21, jq_0_24, jq_0_27, jq_0_31, trivial⟩, ⟨jq_0_34, jq_0_37, jq_0_40, jq_0_46, trivial⟩, ⟨jq_0_50, jq_0_54, jq_0_60, jq_0_63, trivial⟩, ⟨jq_0_66, jq_0_70, jq_0_73, trivial⟩, trivial⟩
theorem jq_1_3 : jeOK (jcn 1) 3 (5, 0, 0, 0) := (jin_9 _ (List.mem_of_getElem? (i := 12) rfl))
theorem jq_1_9 : jeOK (jcn 1) 9 (0, 1, 0, 0) := ⟨_, rfl, by decide, (jin_9 _ (List.mem_of_getElem? (i := 13) rfl))⟩
theorem jq_1_15 : jeOK (jcn 1) 15 (0, 1, 1, 0) := ⟨_, rfl, by decide, (jin_9 _ (List.mem_of_getElem? (i := 14) rfl))⟩
theorem jq_1_18 : jeOK (jcn 1) 18 (0, 1, 2, 0) := ⟨_, rfl, by decide, (jin_9 _ (List.mem_of_getElem? (i := 15) rfl))⟩
theorem jq_1_21 : jeOK (jcn 1) 21 (0, 1, 3, 0) := ⟨_, rfl, by decide, (jin_9 _ (List.mem_of_getElem? (i := 16) rfl))⟩
theorem jq_1_24 : jeOK (jcn 1) 24 (2, 124, 0, 0) := (jin_58 _ (List.mem_of_getElem? (i := 15) rfl))
theorem jq_1_30 : jeOK (jcn 1) 30 (2, 192, 0, 0) := (jin_58 _ (List.mem_of_getElem? (i := 16) rfl))
theorem jq_1_33 : jeOK (jcn 1) 33 (2, 268, 0, 0) := (jin_59 _ (List.mem_of_getElem? (i := 13) rfl))
theorem jo_1 : jall (jeOK (jcn 1)) 0 jp_1 := ⟨⟨jq_1_3, jq_1_9, jq_1_15, trivial⟩, ⟨jq_1_18, jq_1_21, jq_1_24, jq_1_30, trivial⟩, ⟨jq_1_33, trivial⟩, trivial⟩
theorem jq_2_3 : jeOK (jcn 2) 3 (5, 0, 0, 0) := (jin_3 _ (List.mem_of_getElem? (i := 21) rfl))
theorem jq_2_9 : jeOK (jcn 2) 9 (0, 2, 0, 0) := ⟨_, rfl, by decide, (jin_3 _ (List.mem_of_getElem? (i := 22) rfl))⟩
theorem jq_2_15 : jeOK (jcn 2) 15 (0, 2, 1, 0) := ⟨_, rfl, by decide, (jin_3 _ (List.mem_of_getElem? (i := 23) rfl))⟩
theorem jq_2_18 : jeOK (jcn 2) 18 (0, 2, 3, 0) := ⟨_, rfl, by decide, (jin_4 _ (List.mem_of_getElem? (i := 0) rfl))⟩
theorem jq_2_21 : jeOK (jcn 2) 21 (0, 2, 2, 0) := ⟨_, rfl, by decide, (jin_32 _ (List.mem_of_getElem? (i := 21) rfl))⟩
theorem jq_2_25 : jeOK (jcn 2) 25 (1, 136, 0, 0) := (jin_32 _ (List.mem_of_getElem? (i := 22) rfl))
theorem jq_2_29 : jeOK (jcn 2) 29 (0, 2, 4, 0) := ⟨_, rfl, by decide, (jin_33 _ (List.mem_of_getElem? (i := 2) rfl))⟩
theorem jq_2_32 : jeOK (jcn 2) 32 (0, 2, 5, 0) := ⟨_, rfl, by decide, (jin_33 _ (List.mem_of_getElem? (i := 3) rfl))⟩
theorem jq_2_35 : jeOK (jcn 2) 35 (0, 2, 6, 0) := ⟨_, rfl, by decide, (jin_33 _ (List.mem_of_getElem? (i := 4) rfl))⟩
theorem jq_2_38 : jeOK (jcn 2) 38 (0, 2, 7, 0) := ⟨_, rfl, by decide, (jin_33 _ (List.mem_of_getElem? (i := 5) rfl))⟩
theorem jq_2_41 : jeOK (jcn 2) 41 (0, 2, 8, 0) := ⟨_, rfl, by decide, (jin_36 _ (List.mem_of_getElem? (i := 3) rfl))⟩
theorem jq_2_44 : jeOK (jcn 2) 44 (0, 2, 9, 0) := ⟨_, rfl, by decide, (jin_34 _ (List.mem_of_getElem? (i := 22) rfl))⟩
theorem jq_2_47 : jeOK (jcn 2) 47 (0, 2, 10, 0) := ⟨_, rfl, by decide, (jin_39 _ (List.mem_of_getElem? (i := 3) rfl))⟩
theorem jq_2_50 : jeOK (jcn 2) 50 (1, 107, 0, 0) := (jin_33 _ (List.mem_of_getElem? (i := 23) rfl))
theorem jq_2_56 : jeOK (jcn 2) 56 (1, 116, 0, 0) := (jin_34 _ (List.mem_of_getElem? (i := 17) rfl))
theorem jq_2_62 : jeOK (jcn 2) 62 (0, 8, 0, 0) := ⟨_, rfl, by decide, (jin_34 _ (List.mem_of_getElem? (i := 16) rfl))⟩
theorem jq_2_66 : jeOK (jcn 2) 66 (1, 144, 0, 0) := (jin_34 _ (List.mem_of_getElem? (i := 18) rfl))
theorem jq_2_72 : jeOK (jcn 2) 72 (1, 151, 0, 0) := (jin_35 _ (List.mem_of_getElem? (i := 23) rfl))
theorem jq_2_75 : jeOK (jcn 2) 75 (1, 123, 0, 0) := (jin_37 _ (List.mem_of_getElem? (i := 5) rfl))
theorem jq_2_79 : jeOK (jcn 2) 79 (2, 115, 0, 0) := (jin_40 _ (List.mem_of_getElem? (i := 15) rfl))
theorem jq_2_83 : jeOK (jcn 2) 83 (1, 143, 0, 0) := (jin_40 _ (List.mem_of_getElem? (i := 16) rfl))
theorem jq_2_87 : jeOK (jcn 2) 87 (1, 172, 0, 0) := (jin_40 _ (List.mem_of_getElem? (i := 17) rfl))
theorem jq_2_91 : jeOK (jcn 2) 91 (1, 150, 0, 0) := (jin_41 _ (List.mem_of_getElem? (i := 5) rfl))
theorem jo_2 : jall (jeOK (jcn 2)) 0 jp_2 := ⟨⟨jq_2_3, jq_2_9, jq_2_15, trivial⟩, ⟨jq_2_18, jq_2_21, jq_2_25, jq_2_29, trivial⟩, ⟨jq_2_32, jq_2_35, jq_2_38, jq_2_41, jq_2_44, jq_2_47, trivial⟩, ⟨jq_2_50, jq_2_56, jq_2_62, trivial⟩, ⟨jq_2_66, jq_2_72, jq_2_75, jq_2_79, trivial⟩, ⟨jq_2_83, jq_2_87, jq_2_91, trivial⟩, trivial⟩
theorem jq_3_3 : jeOK (jcn 3) 3 (5, 0, 0, 0) := (jin_3 _ (List.mem_of_getElem? (i := 3) rfl))
theorem jq_3_11 : jeOK (jcn 3) 11 (0, 3, 0, 0) := ⟨_, rfl, by decide, (jin_3 _ (List.mem_of_getElem? (i := 5) rfl))⟩
theorem jq_3_15 : jeOK (jcn 3) 15 (2, 2, 0, 0) := (jin_3 _ (List.mem_of_getElem? (i := 8) rfl))
theorem jq_3_19 : jeOK (jcn 3) 19 (2, 3, 0, 0) := (jin_3 _ (List.mem_of_getElem? (i := 15) rfl))
theorem jq_3_23 : jeOK (jcn 3) 23 (0, 3, 1, 0) := ⟨_, rfl, by decide, (jin_3 _ (List.mem_of_getElem? (i := 6) rfl))⟩
theorem jq_3_26 : jeOK (jcn 3) 26 (0, 3, 2, 0) := ⟨_, rfl, by decide, (jin_3 _ (List.mem_of_getElem? (i := 7) rfl))⟩
theorem jq_3_29 : jeOK (jcn 3) 29 (8, 0, 0, 1000000) := (jin_3 _ (List.mem_of_getElem? (i := 11) rfl))
theorem jq_3_31 : jeOK (jcn 3) 31 (8, 0, 0, 100000000) := (jin_3 _ (List.mem_of_getElem? (i := 12) rfl))
theorem jq_3_33 : jeOK (jcn 3) 33 (8, 0, 0, 1000000000) := (jin_3 _ (List.mem_of_getElem? (i := 13) rfl))
theorem jq_3_35 : jeOK (jcn 3) 35 (8, 0, 0, 10) := (jin_3 _ (List.mem_of_getElem? (i := 14) rfl))
theorem jq_3_37 : jeOK (jcn 3) 37 (1, 94, 0, 0) := (jin_45 _ (List.mem_of_getElem? (i := 8) rfl))
theorem jq_3_40 : jeOK (jcn 3) 40 (2, 125, 0, 0) := (jin_58 _ (List.mem_of_getElem? (i := 22) rfl))
theorem jo_3 : jall (jeOK (jcn 3)) 0 jp_3 := ⟨⟨jq_3_3, jq_3_11, jq_3_15, trivial⟩, ⟨jq_3_19, jq_3_23, jq_3_26, jq_3_29, jq_3_31, trivial⟩, ⟨jq_3_33, jq_3_35, jq_3_37, jq_3_40, trivial⟩, trivial⟩
theorem jq_4_3 : jeOK (jcn 4) 3 (5, 0, 0, 0) := (jin_8 _ (List.mem_of_getElem? (i := 6) rfl))
theorem jq_4_11 : jeOK (jcn 4) 11 (0, 4, 0, 0) := ⟨_, rfl, by decide, (jin_8 _ (List.mem_of_getElem? (i := 7) rfl))⟩
theorem jq_4_15 : jeOK (jcn 4) 15 (0, 4, 1, 0) := ⟨_, rfl, by decide, (jin_8 _ (List.mem_of_getElem? (i := 8) rfl))⟩
theorem jq_4_18 : jeOK (jcn 4) 18 (0, 4, 2, 0) := ⟨_, rfl, by decide, (jin_8 _ (List.mem_of_getElem? (i := 9) rfl))⟩
theorem jq_4_22 : jeOK (jcn 4) 22 (10, 2, 0, 0) := ⟨_, rfl, (jin_8 _ (List.mem_of_getElem? (i := 10) rfl))⟩
theorem jq_4_24 : jeOK (jcn 4) 24 (3, 4, 0, 0) := (jin_8 _ (List.mem_of_getElem? (i := 19) rfl))
theorem jq_4_27 : jeOK (jcn 4) 27 (0, 4, 4, 0) := ⟨_, rfl, by decide, (jin_8 _ (List.mem_of_getElem? (i := 11) rfl))⟩
theorem jq_4_31 : jeOK (jcn 4) 31 (10, 8, 0, 0) := ⟨_, rfl, (jin_8 _ (List.mem_of_getElem? (i := 12) rfl))⟩
theorem jq_4_33 : jeOK (jcn 4) 33 (3, 23, 0, 0) := (jin_8 _ (List.mem_of_getElem? (i := 20) rfl))
theorem jq_4_36 : jeOK (jcn 4) 36 (0, 4, 5, 0) := ⟨_, rfl, by decide, (jin_8 _ (List.mem_of_getElem? (i := 15) rfl))⟩
theorem jq_4_40 : jeOK (jcn 4) 40 (0, 4, 6, 0) := ⟨_, rfl, by decide, (jin_8 _ (List.mem_of_getElem? (i := 16) rfl))⟩
theorem jq_4_43 : jeOK (jcn 4) 43 (0, 4, 7, 0) := ⟨_, rfl, by decide, (jin_8 _ (List.mem_of_getElem? (i := 17) rfl))⟩
theorem jq_4_46 : jeOK (jcn 4) 46 (0, 4, 8, 0) := ⟨_, rfl, by decide, (jin_8 _ (List.mem_of_getElem? (i := 18) rfl))⟩
theorem jq_4_49 : jeOK (jcn 4) 49 (0, 4, 3, 0) := ⟨_, rfl, by decide, (jin_51 _ (List.mem_of_getElem? (i := 12) rfl))⟩
theorem jq_4_53 : jeOK (jcn 4) 53 (0, 4, 9, 0) := ⟨_, rfl, by decide, (jin_51 _ (List.mem_of_getElem? (i := 13) rfl))⟩
theorem jq_4_57 : jeOK (jcn 4) 57 (1, 234, 0, 0) := (jin_55 _ (List.mem_of_getElem? (i := 12) rfl))
theorem jq_4_60 : jeOK (jcn 4) 60 (0, 4, 10, 0) := ⟨_, rfl, by decide, (jin_52 _ (List.mem_of_getElem? (i := 19) rfl))⟩
theorem jq_4_63 : jeOK (jcn 4) 63 (0, 4, 11, 0) := ⟨_, rfl, by decide, (jin_52 _ (List.mem_of_getElem? (i := 20) rfl))⟩
theorem jq_4_66 : jeOK (jcn 4) 66 (1, 235, 0, 0) := (jin_52 _ (List.mem_of_getElem? (i := 21) rfl))
theorem jq_4_70 : jeOK (jcn 4) 70 (1, 236, 0, 0) := (jin_53 _ (List.mem_of_getElem? (i := 1) rfl))
theorem jq_4_74 : jeOK (jcn 4) 74 (1, 237, 0, 0) := (jin_53 _ (List.mem_of_getElem? (i := 18) rfl))
theorem jq_4_77 : jeOK (jcn 4) 77 (1, 136, 0, 0) := (jin_53 _ (List.mem_of_getElem? (i := 13) rfl))
theorem jq_4_81 : jeOK (jcn 4) 81 (1, 164, 0, 0) := (jin_53 _ (List.mem_of_getElem? (i := 14) rfl))
theorem jq_4_84 : jeOK (jcn 4) 84 (1, 171, 0, 0) := (jin_53 _ (List.mem_of_getElem? (i := 15) rfl))
theorem jq_4_88 : jeOK (jcn 4) 88 (1, 174, 0, 0) := (jin_53 _ (List.mem_of_getElem? (i := 16) rfl))
theorem jq_4_91 : jeOK (jcn 4) 91 (1, 175, 0, 0) := (jin_53 _ (List.mem_of_getElem? (i := 17) rfl))
theorem jq_4_95 : jeOK (jcn 4) 95 (0, 2, 8, 0) := ⟨_, rfl, by decide, (jin_53 _ (List.mem_of_getElem? (i := 5) rfl))⟩
theorem jq_4_98 : jeOK (jcn 4) 98 (0, 2, 9, 0) := ⟨_, rfl, by decide, (jin_53 _ (List.mem_of_getElem? (i := 6) rfl))⟩
theorem jq_4_101 : jeOK (jcn 4) 101 (0, 2, 10, 0) := ⟨_, rfl, by decide, (jin_53 _ (List.mem_of_getElem? (i := 7) rfl))⟩
theorem jq_4_104 : jeOK (jcn 4) 104 (0, 4, 12, 0) := ⟨_, rfl, by decide, (jin_53 _ (List.mem_of_getElem? (i := 8) rfl))⟩
theorem jq_4_107 : jeOK (jcn 4) 107 (6, 0, 0, 0) := (jin_53 _ (List.mem_of_getElem? (i := 9) rfl))
theorem jq_4_113 : jeOK (jcn 4) 113 (1, 238, 0, 0) := (jin_53 _ (List.mem_of_getElem? (i := 22) rfl))
theorem jo_4 : jall (jeOK (jcn 4)) 0 jp_4 := ⟨⟨jq_4_3, jq_4_11, jq_4_15, trivial⟩, ⟨jq_4_18, jq_4_22, jq_4_24, jq_4_27, jq_4_31, trivial⟩, ⟨jq_4_33, jq_4_36, jq_4_40, jq_4_43, jq_4_46, trivial⟩, ⟨jq_4_49, jq_4_53, jq_4_57, jq_4_60, jq_4_63, trivial⟩, ⟨jq_4_66, jq_4_70, jq_4_74, jq_4_77, trivial⟩, ⟨jq_4_81, jq_4_84, jq_4_88, jq_4_91, jq_4_95, trivial⟩, ⟨jq_4_98, jq_4_101, jq_4_104, jq_4_107, trivial⟩, ⟨jq_4_113, trivial⟩, trivial⟩
theorem jq_5_3 : jeOK (jcn 5) 3 (5, 0, 0, 0) := (jin_6 _ (List.mem_of_getElem? (i := 19) rfl))
theorem jq_5_11 : jeOK (jcn 5) 11 (0, 5, 0, 0) := ⟨_, rfl, by decide, (jin_6 _ (List.mem_of_getElem? (i := 20) rfl))⟩
theorem jq_5_15 : jeOK (jcn 5) 15 (0, 5, 1, 0) := ⟨_, rfl, by decide, (jin_6 _ (List.mem_of_getElem? (i := 21) rfl))⟩
theorem jq_5_18 : jeOK (jcn 5) 18 (0, 5, 2, 0) := ⟨_, rfl, by decide, (jin_6 _ (List.mem_of_getElem? (i := 22) rfl))⟩
theorem jq_5_21 : jeOK (jcn 5) 21 (0, 5, 3, 0) := ⟨_, rfl, by decide, (jin_6 _ (List.mem_of_getElem? (i := 23) rfl))⟩
theorem jq_5_24 : jeOK (jcn 5) 24 (0, 5, 5, 0) := ⟨_, rfl, by decide, (jin_7 _ (List.mem_of_getElem? (i := 0) rfl))⟩
theorem jq_5_28 : jeOK (jcn 5) 28 (0, 5, 8, 0) := ⟨_, rfl, by decide, (jin_7 _ (List.mem_of_getElem? (i := 1) rfl))⟩
theorem jq_5_31 : jeOK (jcn 5) 31 (0, 5, 12, 0) := ⟨_, rfl, by decide, (jin_7 _ (List.mem_of_getElem? (i := 2) rfl))⟩
theorem jq_5_35 : jeOK (jcn 5) 35 (0, 5, 4, 0) := ⟨_, rfl, by decide, (jin_14 _ (List.mem_of_getElem? (i := 13) rfl))⟩
theorem jq_5_38 : jeOK (jcn 5) 38 (1, 54, 0, 0) := (jin_18 _ (List.mem_of_getElem? (i := 2) rfl))
theorem jq_5_44 : jeOK (jcn 5) 44 (0, 5, 11, 0) := ⟨_, rfl, by decide, (jin_14 _ (List.mem_of_getElem? (i := 18) rfl))⟩
theorem jq_5_47 : jeOK (jcn 5) 47 (0, 5, 6, 0) := ⟨_, rfl, by decide, (jin_14 _ (List.mem_of_getElem? (i := 14) rfl))⟩
theorem jq_5_50 : jeOK (jcn 5) 50 (0, 5, 7, 0) := ⟨_, rfl, by decide, (jin_14 _ (List.mem_of_getElem? (i := 15) rfl))⟩
theorem jq_5_53 : jeOK (jcn 5) 53 (0, 5, 9, 0) := ⟨_, rfl, by decide, (jin_14 _ (List.mem_of_getElem? (i := 16) rfl))⟩
theorem jq_5_56 : jeOK (jcn 5) 56 (0, 5, 10, 0) := ⟨_, rfl, by decide, (jin_14 _ (List.mem_of_getElem? (i := 17) rfl))⟩
theorem jq_5_59 : jeOK (jcn 5) 59 (1, 37, 0, 0) := (jin_14 _ (List.mem_of_getElem? (i := 20) rfl))
theorem jq_5_62 : jeOK (jcn 5) 62 (1, 38, 0, 0) := (jin_15 _ (List.mem_of_getElem? (i := 1) rfl))
theorem jq_5_66 : jeOK (jcn 5) 66 (1, 49, 0, 0) := (jin_17 _ (List.mem_of_getElem? (i := 0) rfl))
theorem jq_5_70 : jeOK (jcn 5) 70 (0, 9, 1, 0) := ⟨_, rfl, by decide, (jin_14 _ (List.mem_of_getElem? (i := 19) rfl))⟩
theorem jq_5_73 : jeOK (jcn 5) 73 (1, 55, 0, 0) := (jin_18 _ (List.mem_of_getElem? (i := 6) rfl))
theorem jq_5_77 : jeOK (jcn 5) 77 (1, 60, 0, 0) := (jin_19 _ (List.mem_of_getElem? (i := 2) rfl))
theorem jq_5_80 : jeOK (jcn 5) 80 (1, 50, 0, 0) := (jin_17 _ (List.mem_of_getElem? (i := 10) rfl))
theorem jq_5_84 : jeOK (jcn 5) 84 (0, 9, 4, 0) := ⟨_, rfl, by decide, (jin_17 _ (List.mem_of_getElem? (i := 4) rfl))⟩
theorem jq_5_87 : jeOK (jcn 5) 87 (0, 9, 5, 0) := ⟨_, rfl, by decide, (jin_17 _ (List.mem_of_getElem? (i := 5) rfl))⟩
theorem jq_5_91 : jeOK (jcn 5) 91 (1, 56, 0, 0) := (jin_18 _ (List.mem_of_getElem? (i := 10) rfl))
theorem jq_5_95 : jeOK (jcn 5) 95 (0, 9, 6, 0) := ⟨_, rfl, by decide, (jin_17 _ (List.mem_of_getElem? (i := 6) rfl))⟩
theorem jq_5_98 : jeOK (jcn 5) 98 (0, 9, 7, 0) := ⟨_, rfl, by decide, (jin_17 _ (List.mem_of_getElem? (i := 7) rfl))⟩
theorem jq_5_101 : jeOK (jcn 5) 101 (0, 9, 9, 0) := ⟨_, rfl, by decide, (jin_17 _ (List.mem_of_getElem? (i := 8) rfl))⟩
theorem jq_5_105 : jeOK (jcn 5) 105 (0, 9, 8, 0) := ⟨_, rfl, by decide, (jin_17 _ (List.mem_of_getElem? (i := 9) rfl))⟩
theorem jq_5_108 : jeOK (jcn 5) 108 (1, 57, 0, 0) := (jin_18 _ (List.mem_of_getElem? (i := 14) rfl))
theorem jq_5_111 : jeOK (jcn 5) 111 (1, 58, 0, 0) := (jin_18 _ (List.mem_of_getElem? (i := 18) rfl))
theorem jq_5_114 : jeOK (jcn 5) 114 (1, 51, 0, 0) := (jin_17 _ (List.mem_of_getElem? (i := 14) rfl))
theorem jq_5_117 : jeOK (jcn 5) 117 (1, 52, 0, 0) := (jin_17 _ (List.mem_of_getElem? (i := 18) rfl))
theorem jq_5_120 : jeOK (jcn 5) 120 (1, 53, 0, 0) := (jin_17 _ (List.mem_of_getElem? (i := 22) rfl))
theorem jq_5_123 : jeOK (jcn 5) 123 (1, 59, 0, 0) := (jin_18 _ (List.mem_of_getElem? (i := 22) rfl))
theorem jq_5_127 : jeOK (jcn 5) 127 (1, 61, 0, 0) := (jin_19 _ (List.mem_of_getElem? (i := 6) rfl))
theorem jq_5_130 : jeOK (jcn 5) 130 (1, 62, 0, 0) := (jin_19 _ (List.mem_of_getElem? (i := 10) rfl))
theorem jq_5_133 : jeOK (jcn 5) 133 (1, 63, 0, 0) := (jin_19 _ (List.mem_of_getElem? (i := 14) rfl))
theorem jq_5_136 : jeOK (jcn 5) 136 (1, 64, 0, 0) := (jin_19 _ (List.mem_of_getElem? (i := 18) rfl))
theorem jo_5 : jall (jeOK (jcn 5)) 0 jp_5 := ⟨⟨jq_5_3, jq_5_11, jq_5_15, trivial⟩, ⟨jq_5_18, jq_5_21, jq_5_24, jq_5_28, jq_5_31, trivial⟩, ⟨jq_5_35, jq_5_38, jq_5_44, jq_5_47, trivial⟩, ⟨jq_5_50, jq_5_53, jq_5_56, jq_5_59, jq_5_62, trivial⟩, ⟨jq_5_66, jq_5_70, jq_5_73, jq_5_77, trivial⟩, ⟨jq_5_80, jq_5_84, jq_5_87, jq_5_91, jq_5_95, trivial⟩, ⟨jq_5_98, jq_5_101, jq_5_105, jq_5_108, jq_5_111, trivial⟩, ⟨jq_5_114, jq_5_117, jq_5_120, jq_5_123, jq_5_127, trivial⟩, ⟨jq_5_130, jq_5_133, jq_5_136, trivial⟩, trivial⟩
theorem jq_6_3 : jeOK (jcn 6) 3 (5, 0, 0, 0) := (jin_26 _ (List.mem_of_getElem? (i := 9) rfl))
theorem jq_6_11 : jeOK (jcn 6) 11 (10, 8, 0, 0) := ⟨_, rfl, (jin_26 _ (List.mem_of_getElem? (i := 10) rfl))⟩
theorem jq_6_13 : jeOK (jcn 6) 13 (0, 6, 0, 0) := ⟨_, rfl, by decide, (jin_26 _ (List.mem_of_getElem? (i := 11) rfl))⟩
theorem jq_6_17 : jeOK (jcn 6) 17 (0, 6, 1, 0) := ⟨_, rfl, by decide, (jin_27 _ (List.mem_of_getElem? (i := 5) rfl))⟩
theorem jq_6_21 : jeOK (jcn 6) 21 (3, 23, 0, 0) := (jin_27 _ (List.mem_of_getElem? (i := 6) rfl))
theorem jq_6_24 : jeOK (jcn 6) 24 (0, 8, 0, 0) := ⟨_, rfl, by decide, (jin_40 _ (List.mem_of_getElem? (i := 8) rfl))⟩
theorem jq_6_28 : jeOK (jcn 6) 28 (0, 8, 1, 0) := ⟨_, rfl, by decide, (jin_40 _ (List.mem_of_getElem? (i := 9) rfl))⟩
theorem jq_6_31 : jeOK (jcn 6) 31 (0, 8, 2, 0) := ⟨_, rfl, by decide, (jin_40 _ (List.mem_of_getElem? (i := 10) rfl))⟩
theorem jo_6 : jall (jeOK (jcn 6)) 0 jp_6 := ⟨⟨jq_6_3, jq_6_11, jq_6_13, trivial⟩, ⟨jq_6_17, jq_6_21, jq_6_24, jq_6_28, jq_6_31, trivial⟩, trivial⟩
theorem jq_7_3 : jeOK (jcn 7) 3 (5, 0, 0, 0) := (jin_7 _ (List.mem_of_getElem? (i := 6) rfl))
theorem jq_7_9 : jeOK (jcn 7) 9 (0, 7, 0, 0) := ⟨_, rfl, by decide, (jin_7 _ (List.mem_of_getElem? (i := 7) rfl))⟩
theorem jq_7_15 : jeOK (jcn 7) 15 (0, 7, 1, 0) := ⟨_, rfl, by decide, (jin_7 _ (List.mem_of_getElem? (i := 8) rfl))⟩
theorem jq_7_21 : jeOK (jcn 7) 21 (10, 10, 0, 0) := ⟨_, rfl, (jin_7 _ (List.mem_of_getElem? (i := 9) rfl))⟩
theorem jq_7_23 : jeOK (jcn 7) 23 (0, 7, 3, 0) := ⟨_, rfl, by decide, (jin_7 _ (List.mem_of_getElem? (i := 10) rfl))⟩
theorem jq_7_27 : jeOK (jcn 7) 27 (0, 7, 4, 0) := ⟨_, rfl, by decide, (jin_7 _ (List.mem_of_getElem? (i := 11) rfl))⟩
theorem jq_7_30 : jeOK (jcn 7) 30 (4, 21, 0, 0) := ⟨rfl, rfl, rfl⟩
theorem jq_7_31 : jeOK (jcn 7) 31 (0, 7, 5, 0) := ⟨_, rfl, by decide, (jin_7 _ (List.mem_of_getElem? (i := 14) rfl))⟩
theorem jq_7_35 : jeOK (jcn 7) 35 (0, 7, 6, 0) := ⟨_, rfl, by decide, (jin_7 _ (List.mem_of_getElem? (i := 15) rfl))⟩
theorem jq_7_38 : jeOK (jcn 7) 38 (0, 7, 7, 0) := ⟨_, rfl, by decide, (jin_7 _ (List.mem_of_getElem? (i := 16) rfl))⟩
theorem jq_7_41 : jeOK (jcn 7) 41 (0, 7, 8, 0) := ⟨_, rfl, by decide, (jin_7 _ (List.mem_of_getElem? (i := 17) rfl))⟩
theorem jq_7_45 : jeOK (jcn 7) 45 (0, 7, 9, 0) := ⟨_, rfl, by decide, (jin_7 _ (List.mem_of_getElem? (i := 18) rfl))⟩
theorem jq_7_48 : jeOK (jcn 7) 48 (0, 7, 10, 0) := ⟨_, rfl, by decide, (jin_7 _ (List.mem_of_getElem? (i := 19) rfl))⟩
theorem jq_7_51 : jeOK (jcn 7) 51 (0, 7, 11, 0) := ⟨_, rfl, by decide, (jin_7 _ (List.mem_of_getElem? (i := 21) rfl))⟩
theorem jq_7_55 : jeOK (jcn 7) 55 (0, 7, 13, 0) := ⟨_, rfl, by decide, (jin_7 _ (List.mem_of_getElem? (i := 22) rfl))⟩
theorem jq_7_58 : jeOK (jcn 7) 58 (0, 7, 18, 0) := ⟨_, rfl, by decide, (jin_7 _ (List.mem_of_getElem? (i := 23) rfl))⟩
theorem jq_7_62 : jeOK (jcn 7) 62 (0, 10, 0, 0) := ⟨_, rfl, by decide, (jin_20 _ (List.mem_of_getElem? (i := 5) rfl))⟩
theorem jq_7_66 : jeOK (jcn 7) 66 (2, 66, 0, 0) := (jin_20 _ (List.mem_of_getElem? (i := 2) rfl))
theorem jq_7_70 : jeOK (jcn 7) 70 (1, 225, 0, 0) := (jin_50 _ (List.mem_of_getElem? (i := 20) rfl))
theorem jq_7_74 : jeOK (jcn 7) 74 (0, 2, 4, 0) := ⟨_, rfl, by decide, (jin_38 _ (List.mem_of_getElem? (i := 10) rfl))⟩
theorem jq_7_79 : jeOK (jcn 7) 79 (0, 2, 5, 0) := ⟨_, rfl, by decide, (jin_38 _ (List.mem_of_getElem? (i := 11) rfl))⟩
theorem jq_7_82 : jeOK (jcn 7) 82 (0, 2, 6, 0) := ⟨_, rfl, by decide, (jin_38 _ (List.mem_of_getElem? (i := 12) rfl))⟩
theorem jq_7_85 : jeOK (jcn 7) 85 (0, 2, 7, 0) := ⟨_, rfl, by decide, (jin_38 _ (List.mem_of_getElem? (i := 13) rfl))⟩
theorem jq_7_88 : jeOK (jcn 7) 88 (0, 7, 2, 0) := ⟨_, rfl, by decide, (jin_38 _ (List.mem_of_getElem? (i := 14) rfl))⟩
theorem jq_7_92 : jeOK (jcn 7) 92 (1, 164, 0, 0) := (jin_38 _ (List.mem_of_getElem? (i := 23) rfl))
theorem jq_7_95 : jeOK (jcn 7) 95 (0, 7, 14, 0) := ⟨_, rfl, by decide, (jin_38 _ (List.mem_of_getElem? (i := 15) rfl))⟩
theorem jq_7_98 : jeOK (jcn 7) 98 (0, 7, 15, 0) := ⟨_, rfl, by decide, (jin_38 _ (List.mem_of_getElem? (i := 16) rfl))⟩
theorem jq_7_101 : jeOK (jcn 7) 101 (7, 0, 0, 1000000) := (jin_38 _ (List.mem_of_getElem? (i := 17) rfl))
theorem jq_7_102 : jeOK (jcn 7) 102 (0, 5, 4, 0) := ⟨_, rfl, by decide, (jin_38 _ (List.mem_of_getElem? (i := 18) rfl))⟩
theorem jq_7_105 : jeOK (jcn 7) 105 (1, 53, 0, 0) := (jin_39 _ (List.mem_of_getElem? (i := 4) rfl))
theorem jq_7_108 : jeOK (jcn 7) 108 (1, 165, 0, 0) := (jin_39 _ (List.mem_of_getElem? (i := 5) rfl))
theorem jq_7_112 : jeOK (jcn 7) 112 (1, 167, 0, 0) := (jin_39 _ (List.mem_of_getElem? (i := 14) rfl))
theorem jq_7_115 : jeOK (jcn 7) 115 (1, 181, 0, 0) := (jin_42 _ (List.mem_of_getElem? (i := 19) rfl))
theorem jq_7_118 : jeOK (jcn 7) 118 (1, 182, 0, 0) := (jin_42 _ (List.mem_of_getElem? (i := 23) rfl))
theorem jq_7_121 : jeOK (jcn 7) 121 (1, 64, 0, 0) := (jin_41 _ (List.mem_of_getElem? (i := 16) rfl))
theorem jq_7_124 : jeOK (jcn 7) 124 (1, 187, 0, 0) := (jin_43 _ (List.mem_of_getElem? (i := 18) rfl))
theorem jq_7_127 : jeOK (jcn 7) 127 (1, 188, 0, 0) := (jin_43 _ (List.mem_of_getElem? (i := 22) rfl))
theorem jq_7_130 : jeOK (jcn 7) 130 (1, 136, 0, 0) := (jin_45 _ (List.mem_of_getElem? (i := 11) rfl))
theorem jq_7_134 : jeOK (jcn 7) 134 (0, 7, 17, 0) := ⟨_, rfl, by decide, (jin_38 _ (List.mem_of_getElem? (i := 19) rfl))⟩
theorem jq_7_137 : jeOK (jcn 7) 137 (0, 7, 16, 0) := ⟨_, rfl, by decide, (jin_38 _ (List.mem_of_getElem? (i := 20) rfl))⟩
theorem jq_7_140 : jeOK (jcn 7) 140 (1, 62, 0, 0) := (jin_45 _ (List.mem_of_getElem? (i := 12) rfl))
theorem jq_7_143 : jeOK (jcn 7) 143 (0, 2, 9, 0) := ⟨_, rfl, by decide, (jin_38 _ (List.mem_of_getElem? (i := 21) rfl))⟩
theorem jq_7_146 : jeOK (jcn 7) 146 (0, 7, 19, 0) := ⟨_, rfl, by decide, (jin_38 _ (List.mem_of_getElem? (i := 22) rfl))⟩
theorem jq_7_147 : jeOK (jcn 7) 147 (1, 166, 0, 0) := (jin_39 _ (List.mem_of_getElem? (i := 10) rfl))
theorem jq_7_153 : jeOK (jcn 7) 153 (1, 176, 0, 0) := (jin_41 _ (List.mem_of_getElem? (i := 11) rfl))
theorem jq_7_157 : jeOK (jcn 7) 157 (1, 183, 0, 0) := (jin_43 _ (List.mem_of_getElem? (i := 3) rfl))
theorem jq_7_161 : jeOK (jcn 7) 161 (1, 185, 0, 0) := (jin_43 _ (List.mem_of_getElem? (i := 10) rfl))
theorem jq_7_164 : jeOK (jcn 7) 164 (1, 61, 0, 0) := (jin_41 _ (List.mem_of_getElem? (i := 15) rfl))
theorem jq_7_167 : jeOK (jcn 7) 167 (1, 177, 0, 0) := (jin_41 _ (List.mem_of_getElem? (i := 17) rfl))
theorem jq_7_171 : jeOK (jcn 7) 171 (0, 7, 12, 0) := ⟨_, rfl, by decide, (jin_39 _ (List.mem_of_getElem? (i := 9) rfl))⟩
theorem jq_7_174 : jeOK (jcn 7) 174 (1, 168, 0, 0) := (jin_39 _ (List.mem_of_getElem? (i := 19) rfl))
theorem jq_7_177 : jeOK (jcn 7) 177 (1, 169, 0, 0) := (jin_39 _ (List.mem_of_getElem? (i := 23) rfl))
theorem jq_7_181 : jeOK (jcn 7) 181 (1, 157, 0, 0) := (jin_41 _ (List.mem_of_getElem? (i := 10) rfl))
theorem jq_7_185 : jeOK (jcn 7) 185 (0, 2, 10, 0) := ⟨_, rfl, by decide, (jin_39 _ (List.mem_of_getElem? (i := 18) rfl))⟩
theorem jq_7_188 : jeOK (jcn 7) 188 (1, 178, 0, 0) := (jin_42 _ (List.mem_of_getElem? (i := 4) rfl))
theorem jq_7_192 : jeOK (jcn 7) 192 (1, 179, 0, 0) := (jin_42 _ (List.mem_of_getElem? (i := 11) rfl))
theorem jq_7_195 : jeOK (jcn 7) 195 (0, 2, 2, 0) := ⟨_, rfl, by decide, (jin_40 _ (List.mem_of_getElem? (i := 3) rfl))⟩
theorem jq_7_199 : jeOK (jcn 7) 199 (1, 170, 0, 0) := (jin_40 _ (List.mem_of_getElem? (i := 4) rfl))
theorem jq_7_205 : jeOK (jcn 7) 205 (1, 189, 0, 0) := (jin_44 _ (List.mem_of_getElem? (i := 4) rfl))
theorem jq_7_208 : jeOK (jcn 7) 208 (1, 190, 0, 0) := (jin_44 _ (List.mem_of_getElem? (i := 8) rfl))
theorem jq_7_211 : jeOK (jcn 7) 211 (0, 10, 2, 0) := ⟨_, rfl, by decide, (jin_44 _ (List.mem_of_getElem? (i := 2) rfl))⟩
theorem jq_7_214 : jeOK (jcn 7) 214 (2, 191, 0, 0) := (jin_44 _ (List.mem_of_getElem? (i := 12) rfl))
theorem jq_7_218 : jeOK (jcn 7) 218 (1, 193, 0, 0) := (jin_44 _ (List.mem_of_getElem? (i := 18) rfl))
theorem jq_7_222 : jeOK (jcn 7) 222 (0, 10, 1, 0) := ⟨_, rfl, by decide, (jin_44 _ (List.mem_of_getElem? (i := 3) rfl))⟩
theorem jq_7_225 : jeOK (jcn 7) 225 (1, 194, 0, 0) := (jin_45 _ (List.mem_of_getElem? (i := 0) rfl))
theorem jq_7_229 : jeOK (jcn 7) 229 (1, 173, 0, 0) := (jin_40 _ (List.mem_of_getElem? (i := 21) rfl))
theorem jq_7_233 : jeOK (jcn 7) 233 (2, 192, 0, 0) := (jin_44 _ (List.mem_of_getElem? (i := 15) rfl))
theorem jq_7_238 : jeOK (jcn 7) 238 (1, 141, 0, 0) := (jin_44 _ (List.mem_of_getElem? (i := 23) rfl))
theorem jq_7_243 : jeOK (jcn 7) 243 (0, 8, 1, 0) := ⟨_, rfl, by decide, (jin_44 _ (List.mem_of_getElem? (i := 22) rfl))⟩
theorem jq_7_246 : jeOK (jcn 7) 246 (1, 143, 0, 0) := (jin_45 _ (List.mem_of_getElem? (i := 9) rfl))
theorem jq_7_250 : jeOK (jcn 7) 250 (1, 172, 0, 0) := (jin_45 _ (List.mem_of_getElem? (i := 10) rfl))
theorem jq_7_254 : jeOK (jcn 7) 254 (1, 171, 0, 0) := (jin_40 _ (List.mem_of_getElem? (i := 11) rfl))
theorem jq_7_258 : jeOK (jcn 7) 258 (1, 174, 0, 0) := (jin_41 _ (List.mem_of_getElem? (i := 1) rfl))
theorem jq_7_261 : jeOK (jcn 7) 261 (1, 175, 0, 0) := (jin_41 _ (List.mem_of_getElem? (i := 6) rfl))
theorem jo_7 : jall (jeOK (jcn 7)) 0 jp_7 := ⟨⟨jq_7_3, jq_7_9, jq_7_15, trivial⟩, ⟨jq_7_21, jq_7_23, jq_7_27, jq_7_30, jq_7_31, trivial⟩, ⟨jq_7_35, jq_7_38, jq_7_41, jq_7_45, trivial⟩, ⟨jq_7_48, jq_7_51, jq_7_55, jq_7_58, jq_7_62, trivial⟩, ⟨jq_7_66, jq_7_70, jq_7_74, jq_7_79, trivial⟩, ⟨jq_7_82, jq_7_85, jq_7_88, jq_7_92, jq_7_95, trivial⟩, ⟨jq_7_98, jq_7_101, jq_7_102, jq_7_105, jq_7_108, trivial⟩, ⟨jq_7_112, jq_7_115, jq_7_118, jq_7_121, jq_7_124, jq_7_127, trivial⟩, ⟨jq_7_130, jq_7_134, jq_7_137, jq_7_140, jq_7_143, trivial⟩, ⟨jq_7_146, jq_7_147, jq_7_153, jq_7_157, trivial⟩, ⟨jq_7_161, jq_7_164, jq_7_167, jq_7_171, jq_7_174, trivial⟩, ⟨jq_7_177, jq_7_181, jq_7_185, jq_7_188, trivial⟩, ⟨jq_7_192, jq_7_195, jq_7_199, jq_7_205, trivial⟩, ⟨jq_7_208, jq_7_211, jq_7_214, jq_7_218, jq_7_222, trivial⟩, ⟨jq_7_225, jq_7_229, jq_7_233, jq_7_238, trivial⟩, ⟨jq_7_243, jq_7_246, jq_7_250, jq_7_254, trivial⟩, ⟨jq_7_258, jq_7_261, trivial⟩, trivial⟩
theorem jq_8_3 : jeOK (jcn 8) 3 (5, 0, 0, 0) := (jin_8 _ (List.mem_of_getElem? (i := 23) rfl))
theorem jq_8_9 : jeOK (jcn 8) 9 (0, 8, 0, 0) := ⟨_, rfl, by decide, (jin_9 _ (List.mem_of_getElem? (i := 0) rfl))⟩
theorem jq_8_15 : jeOK (jcn 8) 15 (0, 8, 1, 0) := ⟨_, rfl, by decide, (jin_9 _ (List.mem_of_getElem? (i := 1) rfl))⟩
theorem jq_8_19 : jeOK (jcn 8) 19 (0, 8, 2, 0) := ⟨_, rfl, by decide, (jin_9 _ (List.mem_of_getElem? (i := 2) rfl))⟩
theorem jq_8_22 : jeOK (jcn 8) 22 (1, 24, 0, 0) := (jin_9 _ (List.mem_of_getElem? (i := 5) rfl))
theorem jq_8_28 : jeOK (jcn 8) 28 (0, 8, 3, 0) := ⟨_, rfl, by decide, (jin_9 _ (List.mem_of_getElem? (i := 3) rfl))⟩
theorem jq_8_32 : jeOK (jcn 8) 32 (0, 8, 4, 0) := ⟨_, rfl, by decide, (jin_9 _ (List.mem_of_getElem? (i := 4) rfl))⟩
theorem jq_8_35 : jeOK (jcn 8) 35 (2, 180, 0, 0) := (jin_60 _ (List.mem_of_getElem? (i := 7) rfl))
theorem jq_8_41 : jeOK (jcn 8) 41 (2, 142, 0, 0) := (jin_34 _ (List.mem_of_getElem? (i := 7) rfl))
theorem jq_8_44 : jeOK (jcn 8) 44 (2, 115, 0, 0) := (jin_34 _ (List.mem_of_getElem? (i := 11) rfl))
theorem jq_8_47 : jeOK (jcn 8) 47 (2, 124, 0, 0) := (jin_30 _ (List.mem_of_getElem? (i := 19) rfl))
theorem jq_8_50 : jeOK (jcn 8) 50 (7, 0, 0, 1000000) := (jin_30 _ (List.mem_of_getElem? (i := 23) rfl))
theorem jq_8_51 : jeOK (jcn 8) 51 (0, 8, 5, 0) := ⟨_, rfl, by decide, (jin_31 _ (List.mem_of_getElem? (i := 0) rfl))⟩
theorem jq_8_54 : jeOK (jcn 8) 54 (0, 8, 6, 0) := ⟨_, rfl, by decide, (jin_31 _ (List.mem_of_getElem? (i := 1) rfl))⟩
theorem jq_8_57 : jeOK (jcn 8) 57 (0, 8, 7, 0) := ⟨_, rfl, by decide, (jin_31 _ (List.mem_of_getElem? (i := 2) rfl))⟩
theorem jq_8_60 : jeOK (jcn 8) 60 (1, 126, 0, 0) := (jin_31 _ (List.mem_of_getElem? (i := 6) rfl))
theorem jq_8_64 : jeOK (jcn 8) 64 (1, 116, 0, 0) := (jin_31 _ (List.mem_of_getElem? (i := 10) rfl))
theorem jq_8_67 : jeOK (jcn 8) 67 (2, 125, 0, 0) := (jin_31 _ (List.mem_of_getElem? (i := 3) rfl))
theorem jq_8_70 : jeOK (jcn 8) 70 (1, 128, 0, 0) := (jin_31 _ (List.mem_of_getElem? (i := 15) rfl))
theorem jq_8_73 : jeOK (jcn 8) 73 (2, 129, 0, 0) := (jin_31 _ (List.mem_of_getElem? (i := 19) rfl))
theorem jq_8_76 : jeOK (jcn 8) 76 (2, 130, 0, 0) := (jin_31 _ (List.mem_of_getElem? (i := 22) rfl))
theorem jq_8_79 : jeOK (jcn 8) 79 (11, 0, 0, 0) := (jin_56 _ (List.mem_of_getElem? (i := 5) rfl))
theorem jq_8_82 : jeOK (jcn 8) 82 (1, 250, 0, 0) := (jin_56 _ (List.mem_of_getElem? (i := 6) rfl))
theorem jq_8_86 : jeOK (jcn 8) 86 (1, 251, 0, 0) := (jin_56 _ (List.mem_of_getElem? (i := 10) rfl))
theorem jq_8_89 : jeOK (jcn 8) 89 (1, 249, 0, 0) := (jin_57 _ (List.mem_of_getElem? (i := 13) rfl))
theorem jo_8 : jall (jeOK (jcn 8)) 0 jp_8 := ⟨⟨jq_8_3, jq_8_9, jq_8_15, trivial⟩, ⟨jq_8_19, jq_8_22, jq_8_28, trivial⟩, ⟨jq_8_32, jq_8_35, jq_8_41, jq_8_44, jq_8_47, trivial⟩, ⟨jq_8_50, jq_8_51, jq_8_54, jq_8_57, jq_8_60, trivial⟩, ⟨jq_8_64, jq_8_67, jq_8_70, jq_8_73, jq_8_76, jq_8_79, trivial⟩, ⟨jq_8_82, jq_8_86, jq_8_89, trivial⟩, trivial⟩
theorem jq_9_3 : jeOK (jcn 9) 3 (5, 0, 0, 0) := (jin_4 _ (List.mem_of_getElem? (i := 4) rfl))
theorem jq_9_11 : jeOK (jcn 9) 11 (0, 9, 0, 0) := ⟨_, rfl, by decide, (jin_4 _ (List.mem_of_getElem? (i := 5) rfl))⟩
theorem jq_9_15 : jeOK (jcn 9) 15 (0, 9, 2, 0) := ⟨_, rfl, by decide, (jin_4 _ (List.mem_of_getElem? (i := 7) rfl))⟩
theorem jq_9_19 : jeOK (jcn 9) 19 (9, 0, 0, 0) := ⟨rfl, jsR0, by decide⟩
theorem jq_9_21 : jeOK (jcn 9) 21 (2, 6, 0, 0) := (jin_4 _ (List.mem_of_getElem? (i := 8) rfl))
theorem jq_9_25 : jeOK (jcn 9) 25 (9, 1, 0, 0) := ⟨rfl, jsR1, by decide⟩
theorem jq_9_27 : jeOK (jcn 9) 27 (9, 2, 0, 0) := ⟨rfl, jsR2, by decide⟩
theorem jq_9_29 : jeOK (jcn 9) 29 (9, 3, 0, 0) := ⟨rfl, jsR3, by decide⟩
theorem jq_9_31 : jeOK (jcn 9) 31 (9, 4, 0, 0) := ⟨rfl, jsR4, by decide⟩
theorem jq_9_33 : jeOK (jcn 9) 33 (9, 5, 0, 0) := ⟨rfl, jsR5, by decide⟩
theorem jq_9_35 : jeOK (jcn 9) 35 (9, 6, 0, 0) := ⟨rfl, jsR6, by decide⟩
theorem jq_9_37 : jeOK (jcn 9) 37 (9, 7, 0, 0) := ⟨rfl, jsR7, by decide⟩
theorem jq_9_39 : jeOK (jcn 9) 39 (9, 8, 0, 0) := ⟨rfl, jsR8, by decide⟩
theorem jq_9_41 : jeOK (jcn 9) 41 (9, 9, 0, 0) := ⟨rfl, jsR9, by decide⟩
theorem jq_9_43 : jeOK (jcn 9) 43 (9, 10, 0, 0) := ⟨rfl, jsR10, by decide⟩
theorem jq_9_45 : jeOK (jcn 9) 45 (1, 7, 0, 0) := (jin_4 _ (List.mem_of_getElem? (i := 11) rfl))
theorem jq_9_51 : jeOK (jcn 9) 51 (1, 9, 0, 0) := (jin_4 _ (List.mem_of_getElem? (i := 23) rfl))
theorem jq_9_55 : jeOK (jcn 9) 55 (2, 18, 0, 0) := (jin_6 _ (List.mem_of_getElem? (i := 12) rfl))
theorem jq_9_59 : jeOK (jcn 9) 59 (8, 0, 0, 27) := (jin_6 _ (List.mem_of_getElem? (i := 15) rfl))
theorem jq_9_61 : jeOK (jcn 9) 61 (0, 9, 1, 0) := ⟨_, rfl, by decide, (jin_13 _ (List.mem_of_getElem? (i := 5) rfl))⟩
theorem jq_9_65 : jeOK (jcn 9) 65 (0, 9, 3, 0) := ⟨_, rfl, by decide, (jin_15 _ (List.mem_of_getElem? (i := 0) rfl))⟩
theorem jq_9_68 : jeOK (jcn 9) 68 (1, 39, 0, 0) := (jin_15 _ (List.mem_of_getElem? (i := 6) rfl))
theorem jq_9_72 : jeOK (jcn 9) 72 (2, 40, 0, 0) := (jin_15 _ (List.mem_of_getElem? (i := 10) rfl))
theorem jq_9_76 : jeOK (jcn 9) 76 (0, 9, 4, 0) := ⟨_, rfl, by decide, (jin_15 _ (List.mem_of_getElem? (i := 5) rfl))⟩
theorem jq_9_79 : jeOK (jcn 9) 79 (2, 41, 0, 0) := (jin_15 _ (List.mem_of_getElem? (i := 13) rfl))
theorem jq_9_82 : jeOK (jcn 9) 82 (1, 42, 0, 0) := (jin_15 _ (List.mem_of_getElem? (i := 16) rfl))
theorem jq_9_85 : jeOK (jcn 9) 85 (2, 43, 0, 0) := (jin_15 _ (List.mem_of_getElem? (i := 21) rfl))
theorem jq_9_88 : jeOK (jcn 9) 88 (1, 44, 0, 0) := (jin_16 _ (List.mem_of_getElem? (i := 0) rfl))
theorem jq_9_91 : jeOK (jcn 9) 91 (1, 48, 0, 0) := (jin_16 _ (List.mem_of_getElem? (i := 20) rfl))
theorem jq_9_94 : jeOK (jcn 9) 94 (0, 9, 5, 0) := ⟨_, rfl, by decide, (jin_15 _ (List.mem_of_getElem? (i := 20) rfl))⟩
theorem jq_9_98 : jeOK (jcn 9) 98 (1, 45, 0, 0) := (jin_16 _ (List.mem_of_getElem? (i := 5) rfl))
theorem jq_9_101 : jeOK (jcn 9) 101 (0, 9, 9, 0) := ⟨_, rfl, by decide, (jin_16 _ (List.mem_of_getElem? (i := 4) rfl))⟩
theorem jq_9_105 : jeOK (jcn 9) 105 (1, 46, 0, 0) := (jin_16 _ (List.mem_of_getElem? (i := 9) rfl))
theorem jq_9_109 : jeOK (jcn 9) 109 (1, 47, 0, 0) := (jin_16 _ (List.mem_of_getElem? (i := 14) rfl))
theorem jq_9_113 : jeOK (jcn 9) 113 (0, 9, 8, 0) := ⟨_, rfl, by decide, (jin_16 _ (List.mem_of_getElem? (i := 13) rfl))⟩
theorem jq_9_116 : jeOK (jcn 9) 116 (0, 9, 6, 0) := ⟨_, rfl, by decide, (jin_16 _ (List.mem_of_getElem? (i := 18) rfl))⟩
theorem jq_9_119 : jeOK (jcn 9) 119 (0, 9, 7, 0) := ⟨_, rfl, by decide, (jin_16 _ (List.mem_of_getElem? (i := 19) rfl))⟩
theorem jo_9 : jall (jeOK (jcn 9)) 0 jp_9 := ⟨⟨jq_9_3, jq_9_11, jq_9_15, trivial⟩, ⟨jq_9_19, jq_9_21, jq_9_25, jq_9_27, jq_9_29, jq_9_31, trivial⟩, ⟨jq_9_33, jq_9_35, jq_9_37, jq_9_39, jq_9_41, jq_9_43, jq_9_45, trivial⟩, ⟨jq_9_51, jq_9_55, jq_9_59, jq_9_61, trivial⟩, ⟨jq_9_65, jq_9_68, jq_9_72, jq_9_76, jq_9_79, trivial⟩, ⟨jq_9_82, jq_9_85, jq_9_88, jq_9_91, jq_9_94, trivial⟩, ⟨jq_9_98, jq_9_101, jq_9_105, jq_9_109, trivial⟩, ⟨jq_9_113, jq_9_116, jq_9_119, trivial⟩, trivial⟩
theorem jq_10_3 : jeOK (jcn 10) 3 (5, 0, 0, 0) := (jin_8 _ (List.mem_of_getElem? (i := 2) rfl))
theorem jq_10_9 : jeOK (jcn 10) 9 (0, 10, 0, 0) := ⟨_, rfl, by decide, (jin_41 _ (List.mem_of_getElem? (i := 21) rfl))⟩
theorem jq_10_15 : jeOK (jcn 10) 15 (0, 10, 1, 0) := ⟨_, rfl, by decide, (jin_41 _ (List.mem_of_getElem? (i := 22) rfl))⟩
theorem jq_10_19 : jeOK (jcn 10) 19 (0, 10, 2, 0) := ⟨_, rfl, by decide, (jin_41 _ (List.mem_of_getElem? (i := 23) rfl))⟩
theorem jq_10_22 : jeOK (jcn 10) 22 (0, 10, 3, 0) := ⟨_, rfl, by decide, (jin_42 _ (List.mem_of_getElem? (i := 0) rfl))⟩
theorem jq_10_25 : jeOK (jcn 10) 25 (0, 10, 4, 0) := ⟨_, rfl, by decide, (jin_42 _ (List.mem_of_getElem? (i := 1) rfl))⟩
theorem jq_10_28 : jeOK (jcn 10) 28 (0, 10, 5, 0) := ⟨_, rfl, by decide, (jin_42 _ (List.mem_of_getElem? (i := 2) rfl))⟩
theorem jq_10_31 : jeOK (jcn 10) 31 (0, 10, 6, 0) := ⟨_, rfl, by decide, (jin_42 _ (List.mem_of_getElem? (i := 3) rfl))⟩
theorem jq_10_34 : jeOK (jcn 10) 34 (1, 128, 0, 0) := (jin_42 _ (List.mem_of_getElem? (i := 8) rfl))
theorem jq_10_40 : jeOK (jcn 10) 40 (2, 130, 0, 0) := (jin_42 _ (List.mem_of_getElem? (i := 9) rfl))
theorem jq_10_43 : jeOK (jcn 10) 43 (2, 129, 0, 0) := (jin_42 _ (List.mem_of_getElem? (i := 10) rfl))
theorem jq_10_46 : jeOK (jcn 10) 46 (2, 180, 0, 0) := (jin_42 _ (List.mem_of_getElem? (i := 15) rfl))
theorem jq_10_52 : jeOK (jcn 10) 52 (2, 124, 0, 0) := (jin_42 _ (List.mem_of_getElem? (i := 18) rfl))
theorem jq_10_55 : jeOK (jcn 10) 55 (1, 195, 0, 0) := (jin_45 _ (List.mem_of_getElem? (i := 4) rfl))
theorem jq_10_60 : jeOK (jcn 10) 60 (2, 184, 0, 0) := (jin_43 _ (List.mem_of_getElem? (i := 7) rfl))
theorem jq_10_64 : jeOK (jcn 10) 64 (1, 186, 0, 0) := (jin_43 _ (List.mem_of_getElem? (i := 14) rfl))
theorem jo_10 : jall (jeOK (jcn 10)) 0 jp_10 := ⟨⟨jq_10_3, jq_10_9, jq_10_15, trivial⟩, ⟨jq_10_19, jq_10_22, jq_10_25, jq_10_28, jq_10_31, trivial⟩, ⟨jq_10_34, jq_10_40, jq_10_43, jq_10_46, trivial⟩, ⟨jq_10_52, jq_10_55, jq_10_60, trivial⟩, ⟨jq_10_64, trivial⟩, trivial⟩
theorem jq_11_1 : jeOK (jcn 11) 1 (5, 0, 0, 0) := (jin_1 _ (List.mem_of_getElem? (i := 9) rfl))
theorem jq_11_7 : jeOK (jcn 11) 7 (10, 3, 0, 0) := ⟨_, rfl, (jin_1 _ (List.mem_of_getElem? (i := 12) rfl))⟩
theorem jq_11_9 : jeOK (jcn 11) 9 (3, 1, 0, 0) := (jin_3 _ (List.mem_of_getElem? (i := 0) rfl))
theorem jq_11_10 : jeOK (jcn 11) 10 (0, 11, 0, 0) := ⟨_, rfl, by decide, (jin_1 _ (List.mem_of_getElem? (i := 15) rfl))⟩
theorem jq_11_16 : jeOK (jcn 11) 16 (10, 6, 0, 0) := ⟨_, rfl, (jin_1 _ (List.mem_of_getElem? (i := 16) rfl))⟩
theorem jq_11_18 : jeOK (jcn 11) 18 (0, 11, 1, 0) := ⟨_, rfl, by decide, (jin_1 _ (List.mem_of_getElem? (i := 17) rfl))⟩
theorem jq_11_22 : jeOK (jcn 11) 22 (10, 2, 0, 0) := ⟨_, rfl, (jin_1 _ (List.mem_of_getElem? (i := 18) rfl))⟩
theorem jq_11_24 : jeOK (jcn 11) 24 (3, 4, 0, 0) := (jin_3 _ (List.mem_of_getElem? (i := 18) rfl))
theorem jq_11_27 : jeOK (jcn 11) 27 (0, 11, 3, 0) := ⟨_, rfl, by decide, (jin_1 _ (List.mem_of_getElem? (i := 21) rfl))⟩
theorem jq_11_31 : jeOK (jcn 11) 31 (10, 9, 0, 0) := ⟨_, rfl, (jin_1 _ (List.mem_of_getElem? (i := 22) rfl))⟩
theorem jq_11_33 : jeOK (jcn 11) 33 (3, 5, 0, 0) := (jin_4 _ (List.mem_of_getElem? (i := 1) rfl))
theorem jq_11_34 : jeOK (jcn 11) 34 (0, 11, 4, 0) := ⟨_, rfl, by decide, (jin_2 _ (List.mem_of_getElem? (i := 1) rfl))⟩
theorem jq_11_38 : jeOK (jcn 11) 38 (10, 5, 0, 0) := ⟨_, rfl, (jin_2 _ (List.mem_of_getElem? (i := 2) rfl))⟩
theorem jq_11_40 : jeOK (jcn 11) 40 (3, 19, 0, 0) := (jin_6 _ (List.mem_of_getElem? (i := 16) rfl))
theorem jq_11_41 : jeOK (jcn 11) 41 (0, 11, 5, 0) := ⟨_, rfl, by decide, (jin_2 _ (List.mem_of_getElem? (i := 5) rfl))⟩
theorem jq_11_45 : jeOK (jcn 11) 45 (0, 11, 6, 0) := ⟨_, rfl, by decide, (jin_2 _ (List.mem_of_getElem? (i := 6) rfl))⟩
theorem jq_11_48 : jeOK (jcn 11) 48 (0, 11, 7, 0) := ⟨_, rfl, by decide, (jin_2 _ (List.mem_of_getElem? (i := 7) rfl))⟩
theorem jq_11_52 : jeOK (jcn 11) 52 (10, 7, 0, 0) := ⟨_, rfl, (jin_2 _ (List.mem_of_getElem? (i := 8) rfl))⟩
theorem jq_11_54 : jeOK (jcn 11) 54 (3, 20, 0, 0) := (jin_7 _ (List.mem_of_getElem? (i := 3) rfl))
theorem jq_11_57 : jeOK (jcn 11) 57 (0, 11, 8, 0) := ⟨_, rfl, by decide, (jin_2 _ (List.mem_of_getElem? (i := 11) rfl))⟩
theorem jq_11_61 : jeOK (jcn 11) 61 (10, 4, 0, 0) := ⟨_, rfl, (jin_2 _ (List.mem_of_getElem? (i := 12) rfl))⟩
theorem jq_11_63 : jeOK (jcn 11) 63 (3, 22, 0, 0) := (jin_8 _ (List.mem_of_getElem? (i := 3) rfl))
theorem jq_11_66 : jeOK (jcn 11) 66 (0, 11, 9, 0) := ⟨_, rfl, by decide, (jin_2 _ (List.mem_of_getElem? (i := 15) rfl))⟩
theorem jq_11_70 : jeOK (jcn 11) 70 (10, 1, 0, 0) := ⟨_, rfl, (jin_2 _ (List.mem_of_getElem? (i := 16) rfl))⟩
theorem jq_11_72 : jeOK (jcn 11) 72 (3, 25, 0, 0) := (jin_9 _ (List.mem_of_getElem? (i := 9) rfl))
theorem jq_11_73 : jeOK (jcn 11) 73 (0, 11, 10, 0) := ⟨_, rfl, by decide, (jin_2 _ (List.mem_of_getElem? (i := 19) rfl))⟩
theorem jq_11_77 : jeOK (jcn 11) 77 (10, 0, 0, 0) := ⟨_, rfl, (jin_2 _ (List.mem_of_getElem? (i := 20) rfl))⟩
theorem jq_11_79 : jeOK (jcn 11) 79 (3, 26, 0, 0) := (jin_9 _ (List.mem_of_getElem? (i := 17) rfl))
theorem jq_11_80 : jeOK (jcn 11) 80 (0, 11, 11, 0) := ⟨_, rfl, by decide, (jin_2 _ (List.mem_of_getElem? (i := 23) rfl))⟩
theorem jq_11_84 : jeOK (jcn 11) 84 (1, 29, 0, 0) := (jin_13 _ (List.mem_of_getElem? (i := 1) rfl))
theorem jq_11_88 : jeOK (jcn 11) 88 (1, 30, 0, 0) := (jin_13 _ (List.mem_of_getElem? (i := 6) rfl))
theorem jq_11_92 : jeOK (jcn 11) 92 (0, 9, 1, 0) := ⟨_, rfl, by decide, (jin_13 _ (List.mem_of_getElem? (i := 0) rfl))⟩
theorem jq_11_95 : jeOK (jcn 11) 95 (1, 36, 0, 0) := (jin_14 _ (List.mem_of_getElem? (i := 9) rfl))
theorem jq_11_99 : jeOK (jcn 11) 99 (0, 5, 12, 0) := ⟨_, rfl, by decide, (jin_14 _ (List.mem_of_getElem? (i := 7) rfl))⟩
theorem jq_11_100 : jeOK (jcn 11) 100 (0, 5, 11, 0) := ⟨_, rfl, by decide, (jin_14 _ (List.mem_of_getElem? (i := 8) rfl))⟩
theorem jq_11_103 : jeOK (jcn 11) 103 (1, 65, 0, 0) := (jin_19 _ (List.mem_of_getElem? (i := 22) rfl))
theorem jq_11_106 : jeOK (jcn 11) 106 (1, 94, 0, 0) := (jin_25 _ (List.mem_of_getElem? (i := 12) rfl))
theorem jq_11_110 : jeOK (jcn 11) 110 (0, 11, 2, 0) := ⟨_, rfl, by decide, (jin_26 _ (List.mem_of_getElem? (i := 3) rfl))⟩
theorem jq_11_113 : jeOK (jcn 11) 113 (3, 98, 0, 0) := (jin_26 _ (List.mem_of_getElem? (i := 6) rfl))
theorem jq_11_114 : jeOK (jcn 11) 114 (1, 101, 0, 0) := (jin_26 _ (List.mem_of_getElem? (i := 21) rfl))
theorem jq_11_118 : jeOK (jcn 11) 118 (1, 102, 0, 0) := (jin_27 _ (List.mem_of_getElem? (i := 1) rfl))
theorem jq_11_122 : jeOK (jcn 11) 122 (1, 106, 0, 0) := (jin_27 _ (List.mem_of_getElem? (i := 19) rfl))
theorem jq_11_126 : jeOK (jcn 11) 126 (1, 108, 0, 0) := (jin_28 _ (List.mem_of_getElem? (i := 3) rfl))
theorem jq_11_132 : jeOK (jcn 11) 132 (0, 2, 0, 0) := ⟨_, rfl, by decide, (jin_28 _ (List.mem_of_getElem? (i := 19) rfl))⟩
theorem jq_11_135 : jeOK (jcn 11) 135 (0, 2, 1, 0) := ⟨_, rfl, by decide, (jin_28 _ (List.mem_of_getElem? (i := 20) rfl))⟩
theorem jq_11_138 : jeOK (jcn 11) 138 (1, 114, 0, 0) := (jin_29 _ (List.mem_of_getElem? (i := 5) rfl))
theorem jq_11_141 : jeOK (jcn 11) 141 (2, 115, 0, 0) := (jin_29 _ (List.mem_of_getElem? (i := 9) rfl))
theorem jq_11_145 : jeOK (jcn 11) 145 (1, 116, 0, 0) := (jin_29 _ (List.mem_of_getElem? (i := 12) rfl))
theorem jq_11_148 : jeOK (jcn 11) 148 (1, 123, 0, 0) := (jin_30 _ (List.mem_of_getElem? (i := 15) rfl))
theorem jq_11_151 : jeOK (jcn 11) 151 (1, 127, 0, 0) := (jin_31 _ (List.mem_of_getElem? (i := 11) rfl))
theorem jq_11_154 : jeOK (jcn 11) 154 (1, 135, 0, 0) := (jin_32 _ (List.mem_of_getElem? (i := 17) rfl))
theorem jq_11_158 : jeOK (jcn 11) 158 (1, 139, 0, 0) := (jin_33 _ (List.mem_of_getElem? (i := 19) rfl))
theorem jq_11_162 : jeOK (jcn 11) 162 (2, 140, 0, 0) := (jin_34 _ (List.mem_of_getElem? (i := 0) rfl))
theorem jq_11_165 : jeOK (jcn 11) 165 (1, 141, 0, 0) := (jin_34 _ (List.mem_of_getElem? (i := 3) rfl))
theorem jq_11_168 : jeOK (jcn 11) 168 (1, 143, 0, 0) := (jin_34 _ (List.mem_of_getElem? (i := 12) rfl))
theorem jq_11_172 : jeOK (jcn 11) 172 (0, 2, 5, 0) := ⟨_, rfl, by decide, (jin_33 _ (List.mem_of_getElem? (i := 18) rfl))⟩
theorem jq_11_175 : jeOK (jcn 11) 175 (0, 8, 0, 0) := ⟨_, rfl, by decide, (jin_35 _ (List.mem_of_getElem? (i := 17) rfl))⟩
theorem jq_11_179 : jeOK (jcn 11) 179 (1, 150, 0, 0) := (jin_35 _ (List.mem_of_getElem? (i := 19) rfl))
theorem jq_11_182 : jeOK (jcn 11) 182 (0, 2, 4, 0) := ⟨_, rfl, by decide, (jin_35 _ (List.mem_of_getElem? (i := 18) rfl))⟩
theorem jq_11_185 : jeOK (jcn 11) 185 (0, 2, 2, 0) := ⟨_, rfl, by decide, (jin_36 _ (List.mem_of_getElem? (i := 16) rfl))⟩
theorem jq_11_189 : jeOK (jcn 11) 189 (1, 157, 0, 0) := (jin_37 _ (List.mem_of_getElem? (i := 1) rfl))
theorem jq_11_193 : jeOK (jcn 11) 193 (0, 2, 3, 0) := ⟨_, rfl, by decide, (jin_37 _ (List.mem_of_getElem? (i := 18) rfl))⟩
theorem jq_11_196 : jeOK (jcn 11) 196 (0, 2, 6, 0) := ⟨_, rfl, by decide, (jin_37 _ (List.mem_of_getElem? (i := 19) rfl))⟩
theorem jq_11_199 : jeOK (jcn 11) 199 (0, 2, 7, 0) := ⟨_, rfl, by decide, (jin_37 _ (List.mem_of_getElem? (i := 20) rfl))⟩
theorem jq_11_202 : jeOK (jcn 11) 202 (1, 163, 0, 0) := (jin_38 _ (List.mem_of_getElem? (i := 6) rfl))
theorem jq_11_206 : jeOK (jcn 11) 206 (0, 2, 8, 0) := ⟨_, rfl, by decide, (jin_38 _ (List.mem_of_getElem? (i := 5) rfl))⟩
theorem jq_11_209 : jeOK (jcn 11) 209 (0, 7, 17, 0) := ⟨_, rfl, by decide, (jin_49 _ (List.mem_of_getElem? (i := 12) rfl))⟩
theorem jq_11_212 : jeOK (jcn 11) 212 (0, 7, 18, 0) := ⟨_, rfl, by decide, (jin_49 _ (List.mem_of_getElem? (i := 21) rfl))⟩
theorem jq_11_215 : jeOK (jcn 11) 215 (0, 7, 19, 0) := ⟨_, rfl, by decide, (jin_50 _ (List.mem_of_getElem? (i := 6) rfl))⟩
theorem jq_11_218 : jeOK (jcn 11) 218 (0, 5, 6, 0) := ⟨_, rfl, by decide, (jin_50 _ (List.mem_of_getElem? (i := 15) rfl))⟩
theorem jq_11_221 : jeOK (jcn 11) 221 (1, 224, 0, 0) := (jin_50 _ (List.mem_of_getElem? (i := 16) rfl))
theorem jq_11_224 : jeOK (jcn 11) 224 (1, 228, 0, 0) := (jin_51 _ (List.mem_of_getElem? (i := 8) rfl))
theorem jq_11_228 : jeOK (jcn 11) 228 (1, 231, 0, 0) := (jin_51 _ (List.mem_of_getElem? (i := 23) rfl))
theorem jq_11_232 : jeOK (jcn 11) 232 (0, 4, 3, 0) := ⟨_, rfl, by decide, (jin_52 _ (List.mem_of_getElem? (i := 11) rfl))⟩
theorem jq_11_235 : jeOK (jcn 11) 235 (1, 234, 0, 0) := (jin_52 _ (List.mem_of_getElem? (i := 15) rfl))
theorem jq_11_238 : jeOK (jcn 11) 238 (0, 4, 10, 0) := ⟨_, rfl, by decide, (jin_52 _ (List.mem_of_getElem? (i := 12) rfl))⟩
theorem jq_11_241 : jeOK (jcn 11) 241 (0, 4, 11, 0) := ⟨_, rfl, by decide, (jin_52 _ (List.mem_of_getElem? (i := 13) rfl))⟩
theorem jq_11_244 : jeOK (jcn 11) 244 (0, 4, 12, 0) := ⟨_, rfl, by decide, (jin_52 _ (List.mem_of_getElem? (i := 14) rfl))⟩
theorem jq_11_247 : jeOK (jcn 11) 247 (1, 245, 0, 0) := (jin_55 _ (List.mem_of_getElem? (i := 8) rfl))
theorem jq_11_250 : jeOK (jcn 11) 250 (2, 248, 0, 0) := (jin_55 _ (List.mem_of_getElem? (i := 22) rfl))
theorem jq_11_253 : jeOK (jcn 11) 253 (0, 8, 1, 0) := ⟨_, rfl, by decide, (jin_55 _ (List.mem_of_getElem? (i := 21) rfl))⟩
theorem jq_11_256 : jeOK (jcn 11) 256 (1, 249, 0, 0) := (jin_56 _ (List.mem_of_getElem? (i := 1) rfl))
theorem jq_11_260 : jeOK (jcn 11) 260 (1, 257, 0, 0) := (jin_57 _ (List.mem_of_getElem? (i := 9) rfl))
theorem jq_11_263 : jeOK (jcn 11) 263 (1, 260, 0, 0) := (jin_57 _ (List.mem_of_getElem? (i := 22) rfl))
theorem jq_11_267 : jeOK (jcn 11) 267 (1, 195, 0, 0) := (jin_58 _ (List.mem_of_getElem? (i := 10) rfl))
theorem jq_11_270 : jeOK (jcn 11) 270 (1, 263, 0, 0) := (jin_58 _ (List.mem_of_getElem? (i := 11) rfl))
theorem jq_11_273 : jeOK (jcn 11) 273 (2, 142, 0, 0) := (jin_58 _ (List.mem_of_getElem? (i := 17) rfl))
theorem jq_11_278 : jeOK (jcn 11) 278 (1, 264, 0, 0) := (jin_58 _ (List.mem_of_getElem? (i := 18) rfl))
theorem jq_11_281 : jeOK (jcn 11) 281 (2, 130, 0, 0) := (jin_58 _ (List.mem_of_getElem? (i := 23) rfl))
theorem jq_11_284 : jeOK (jcn 11) 284 (2, 192, 0, 0) := (jin_59 _ (List.mem_of_getElem? (i := 0) rfl))
theorem jq_11_287 : jeOK (jcn 11) 287 (2, 129, 0, 0) := (jin_59 _ (List.mem_of_getElem? (i := 1) rfl))
theorem jq_11_290 : jeOK (jcn 11) 290 (2, 267, 0, 0) := (jin_59 _ (List.mem_of_getElem? (i := 10) rfl))
theorem jq_11_293 : jeOK (jcn 11) 293 (1, 251, 0, 0) := (jin_60 _ (List.mem_of_getElem? (i := 0) rfl))
theorem jq_11_296 : jeOK (jcn 11) 296 (2, 271, 0, 0) := (jin_60 _ (List.mem_of_getElem? (i := 1) rfl))
theorem jq_11_299 : jeOK (jcn 11) 299 (1, 273, 0, 0) := (jin_60 _ (List.mem_of_getElem? (i := 8) rfl))
theorem jq_11_303 : jeOK (jcn 11) 303 (1, 276, 0, 0) := (jin_60 _ (List.mem_of_getElem? (i := 22) rfl))
theorem jq_11_306 : jeOK (jcn 11) 306 (1, 279, 0, 0) := (jin_61 _ (List.mem_of_getElem? (i := 10) rfl))
theorem jq_11_309 : jeOK (jcn 11) 309 (1, 284, 0, 0) := (jin_62 _ (List.mem_of_getElem? (i := 10) rfl))
theorem jq_11_312 : jeOK (jcn 11) 312 (1, 292, 0, 0) := (jin_63 _ (List.mem_of_getElem? (i := 20) rfl))
theorem jq_11_315 : jeOK (jcn 11) 315 (1, 293, 0, 0) := (jin_64 _ (List.mem_of_getElem? (i := 0) rfl))
theorem jq_11_318 : jeOK (jcn 11) 318 (1, 296, 0, 0) := (jin_64 _ (List.mem_of_getElem? (i := 12) rfl))
theorem jq_11_321 : jeOK (jcn 11) 321 (1, 299, 0, 0) := (jin_65 _ (List.mem_of_getElem? (i := 1) rfl))
theorem jq_11_324 : jeOK (jcn 11) 324 (0, 0, 5, 0) := ⟨_, rfl, by decide, (jin_61 _ (List.mem_of_getElem? (i := 14) rfl))⟩
theorem jq_11_327 : jeOK (jcn 11) 327 (1, 107, 0, 0) := (jin_27 _ (List.mem_of_getElem? (i := 23) rfl))
theorem jq_11_329 : jeOK (jcn 11) 329 (0, 6, 1, 0) := ⟨_, rfl, by decide, (jin_61 _ (List.mem_of_getElem? (i := 15) rfl))⟩
theorem jq_11_332 : jeOK (jcn 11) 332 (1, 280, 0, 0) := (jin_61 _ (List.mem_of_getElem? (i := 16) rfl))
theorem jo_11 : jall (jeOK (jcn 11)) 0 jp_11 := ⟨⟨jq_11_1, jq_11_7, jq_11_9, jq_11_10, trivial⟩, ⟨jq_11_16, jq_11_18, jq_11_22, jq_11_24, jq_11_27, jq_11_31, trivial⟩, ⟨jq_11_33, jq_11_34, jq_11_38, jq_11_40, jq_11_41, jq_11_45, trivial⟩, ⟨jq_11_48, jq_11_52, jq_11_54, jq_11_57, jq_11_61, jq_11_63, trivial⟩, ⟨jq_11_66, jq_11_70, jq_11_72, jq_11_73, jq_11_77, jq_11_79, trivial⟩, ⟨jq_11_80, jq_11_84, jq_11_88, jq_11_92, jq_11_95, trivial⟩, ⟨jq_11_99, jq_11_100, jq_11_103, jq_11_106, jq_11_110, trivial⟩, ⟨jq_11_113, jq_11_114, jq_11_118, jq_11_122, jq_11_126, trivial⟩, ⟨jq_11_132, jq_11_135, jq_11_138, jq_11_141, trivial⟩, ⟨jq_11_145, jq_11_148, jq_11_151, jq_11_154, jq_11_158, trivial⟩, ⟨jq_11_162, jq_11_165, jq_11_168, jq_11_172, jq_11_175, trivial⟩, ⟨jq_11_179, jq_11_182, jq_11_185, jq_11_189, trivial⟩, ⟨jq_11_193, jq_11_196, jq_11_199, jq_11_202, jq_11_206, trivial⟩, ⟨jq_11_209, jq_11_212, jq_11_215, jq_11_218, jq_11_221, trivial⟩, ⟨jq_11_224, jq_11_228, jq_11_232, jq_11_235, jq_11_238, trivial⟩, ⟨jq_11_241, jq_11_244, jq_11_247, jq_11_250, jq_11_253, trivial⟩, ⟨jq_11_256, jq_11_260, jq_11_263, jq_11_267, jq_11_270, trivial⟩, ⟨jq_11_273, jq_11_278, jq_11_281, jq_11_284, jq_11_287, trivial⟩, ⟨jq_11_290, jq_11_293, jq_11_296, jq_11_299, jq_11_303, trivial⟩, ⟨jq_11_306, jq_11_309, jq_11_312, jq_11_315, jq_11_318, trivial⟩, ⟨jq_11_321, jq_11_324, jq_11_327, jq_11_329, jq_11_332, trivial⟩, trivial⟩
theorem jq_12_1 : jeOK (jcn 12) 1 (5, 0, 0, 0) := (jin_10 _ (List.mem_of_getElem? (i := 9) rfl))
theorem jq_12_7 : jeOK (jcn 12) 7 (0, 12, 0, 0) := ⟨_, rfl, by decide, (jin_10 _ (List.mem_of_getElem? (i := 11) rfl))⟩
theorem jq_12_13 : jeOK (jcn 12) 13 (0, 12, 3, 0) := ⟨_, rfl, by decide, (jin_10 _ (List.mem_of_getElem? (i := 12) rfl))⟩
theorem jq_12_17 : jeOK (jcn 12) 17 (0, 12, 5, 0) := ⟨_, rfl, by decide, (jin_10 _ (List.mem_of_getElem? (i := 13) rfl))⟩
theorem jq_12_21 : jeOK (jcn 12) 21 (0, 12, 6, 0) := ⟨_, rfl, by decide, (jin_10 _ (List.mem_of_getElem? (i := 14) rfl))⟩
theorem jq_12_25 : jeOK (jcn 12) 25 (0, 12, 7, 0) := ⟨_, rfl, by decide, (jin_10 _ (List.mem_of_getElem? (i := 15) rfl))⟩
theorem jq_12_28 : jeOK (jcn 12) 28 (0, 12, 8, 0) := ⟨_, rfl, by decide, (jin_10 _ (List.mem_of_getElem? (i := 16) rfl))⟩
theorem jq_12_31 : jeOK (jcn 12) 31 (0, 12, 9, 0) := ⟨_, rfl, by decide, (jin_10 _ (List.mem_of_getElem? (i := 17) rfl))⟩
theorem jq_12_34 : jeOK (jcn 12) 34 (0, 12, 10, 0) := ⟨_, rfl, by decide, (jin_10 _ (List.mem_of_getElem? (i := 18) rfl))⟩
theorem jq_12_37 : jeOK (jcn 12) 37 (0, 12, 11, 0) := ⟨_, rfl, by decide, (jin_10 _ (List.mem_of_getElem? (i := 19) rfl))⟩
theorem jq_12_40 : jeOK (jcn 12) 40 (0, 12, 12, 0) := ⟨_, rfl, by decide, (jin_10 _ (List.mem_of_getElem? (i := 20) rfl))⟩
theorem jq_12_43 : jeOK (jcn 12) 43 (0, 12, 13, 0) := ⟨_, rfl, by decide, (jin_10 _ (List.mem_of_getElem? (i := 21) rfl))⟩
theorem jq_12_46 : jeOK (jcn 12) 46 (0, 12, 18, 0) := ⟨_, rfl, by decide, (jin_10 _ (List.mem_of_getElem? (i := 22) rfl))⟩
theorem jq_12_49 : jeOK (jcn 12) 49 (0, 12, 25, 0) := ⟨_, rfl, by decide, (jin_10 _ (List.mem_of_getElem? (i := 23) rfl))⟩
theorem jq_12_52 : jeOK (jcn 12) 52 (0, 12, 26, 0) := ⟨_, rfl, by decide, (jin_11 _ (List.mem_of_getElem? (i := 0) rfl))⟩
theorem jq_12_55 : jeOK (jcn 12) 55 (0, 12, 27, 0) := ⟨_, rfl, by decide, (jin_11 _ (List.mem_of_getElem? (i := 1) rfl))⟩
theorem jq_12_58 : jeOK (jcn 12) 58 (0, 12, 28, 0) := ⟨_, rfl, by decide, (jin_11 _ (List.mem_of_getElem? (i := 2) rfl))⟩
theorem jq_12_61 : jeOK (jcn 12) 61 (0, 12, 29, 0) := ⟨_, rfl, by decide, (jin_11 _ (List.mem_of_getElem? (i := 3) rfl))⟩
theorem jq_12_64 : jeOK (jcn 12) 64 (0, 12, 30, 0) := ⟨_, rfl, by decide, (jin_11 _ (List.mem_of_getElem? (i := 4) rfl))⟩
theorem jq_12_67 : jeOK (jcn 12) 67 (0, 12, 31, 0) := ⟨_, rfl, by decide, (jin_11 _ (List.mem_of_getElem? (i := 5) rfl))⟩
theorem jq_12_70 : jeOK (jcn 12) 70 (0, 12, 32, 0) := ⟨_, rfl, by decide, (jin_11 _ (List.mem_of_getElem? (i := 6) rfl))⟩
theorem jq_12_73 : jeOK (jcn 12) 73 (0, 12, 33, 0) := ⟨_, rfl, by decide, (jin_11 _ (List.mem_of_getElem? (i := 7) rfl))⟩
theorem jq_12_76 : jeOK (jcn 12) 76 (0, 12, 34, 0) := ⟨_, rfl, by decide, (jin_11 _ (List.mem_of_getElem? (i := 8) rfl))⟩
theorem jq_12_79 : jeOK (jcn 12) 79 (0, 12, 35, 0) := ⟨_, rfl, by decide, (jin_11 _ (List.mem_of_getElem? (i := 9) rfl))⟩
theorem jq_12_82 : jeOK (jcn 12) 82 (0, 12, 36, 0) := ⟨_, rfl, by decide, (jin_11 _ (List.mem_of_getElem? (i := 10) rfl))⟩
theorem jq_12_85 : jeOK (jcn 12) 85 (0, 12, 37, 0) := ⟨_, rfl, by decide, (jin_11 _ (List.mem_of_getElem? (i := 11) rfl))⟩
theorem jq_12_88 : jeOK (jcn 12) 88 (0, 12, 38, 0) := ⟨_, rfl, by decide, (jin_11 _ (List.mem_of_getElem? (i := 12) rfl))⟩
theorem jq_12_92 : jeOK (jcn 12) 92 (0, 12, 39, 0) := ⟨_, rfl, by decide, (jin_11 _ (List.mem_of_getElem? (i := 13) rfl))⟩
theorem jq_12_95 : jeOK (jcn 12) 95 (0, 12, 41, 0) := ⟨_, rfl, by decide, (jin_11 _ (List.mem_of_getElem? (i := 14) rfl))⟩
theorem jq_12_98 : jeOK (jcn 12) 98 (0, 12, 42, 0) := ⟨_, rfl, by decide, (jin_11 _ (List.mem_of_getElem? (i := 15) rfl))⟩
theorem jq_12_101 : jeOK (jcn 12) 101 (0, 12, 43, 0) := ⟨_, rfl, by decide, (jin_11 _ (List.mem_of_getElem? (i := 16) rfl))⟩
theorem jq_12_104 : jeOK (jcn 12) 104 (0, 12, 44, 0) := ⟨_, rfl, by decide, (jin_11 _ (List.mem_of_getElem? (i := 17) rfl))⟩
theorem jq_12_107 : jeOK (jcn 12) 107 (0, 12, 45, 0) := ⟨_, rfl, by decide, (jin_11 _ (List.mem_of_getElem? (i := 18) rfl))⟩
theorem jq_12_110 : jeOK (jcn 12) 110 (0, 12, 46, 0) := ⟨_, rfl, by decide, (jin_11 _ (List.mem_of_getElem? (i := 19) rfl))⟩
theorem jq_12_113 : jeOK (jcn 12) 113 (0, 12, 47, 0) := ⟨_, rfl, by decide, (jin_11 _ (List.mem_of_getElem? (i := 20) rfl))⟩
theorem jq_12_116 : jeOK (jcn 12) 116 (0, 12, 55, 0) := ⟨_, rfl, by decide, (jin_11 _ (List.mem_of_getElem? (i := 21) rfl))⟩
theorem jq_12_119 : jeOK (jcn 12) 119 (0, 12, 56, 0) := ⟨_, rfl, by decide, (jin_11 _ (List.mem_of_getElem? (i := 22) rfl))⟩
theorem jq_12_122 : jeOK (jcn 12) 122 (0, 12, 59, 0) := ⟨_, rfl, by decide, (jin_11 _ (List.mem_of_getElem? (i := 23) rfl))⟩
theorem jq_12_125 : jeOK (jcn 12) 125 (0, 12, 60, 0) := ⟨_, rfl, by decide, (jin_12 _ (List.mem_of_getElem? (i := 0) rfl))⟩
theorem jq_12_128 : jeOK (jcn 12) 128 (0, 12, 61, 0) := ⟨_, rfl, by decide, (jin_12 _ (List.mem_of_getElem? (i := 1) rfl))⟩
theorem jq_12_131 : jeOK (jcn 12) 131 (0, 12, 62, 0) := ⟨_, rfl, by decide, (jin_12 _ (List.mem_of_getElem? (i := 2) rfl))⟩
theorem jq_12_134 : jeOK (jcn 12) 134 (0, 12, 63, 0) := ⟨_, rfl, by decide, (jin_12 _ (List.mem_of_getElem? (i := 3) rfl))⟩
theorem jq_12_137 : jeOK (jcn 12) 137 (0, 12, 70, 0) := ⟨_, rfl, by decide, (jin_12 _ (List.mem_of_getElem? (i := 4) rfl))⟩
theorem jq_12_140 : jeOK (jcn 12) 140 (0, 12, 71, 0) := ⟨_, rfl, by decide, (jin_12 _ (List.mem_of_getElem? (i := 5) rfl))⟩
theorem jq_12_143 : jeOK (jcn 12) 143 (0, 12, 72, 0) := ⟨_, rfl, by decide, (jin_12 _ (List.mem_of_getElem? (i := 6) rfl))⟩
theorem jq_12_146 : jeOK (jcn 12) 146 (0, 12, 73, 0) := ⟨_, rfl, by decide, (jin_12 _ (List.mem_of_getElem? (i := 7) rfl))⟩
theorem jq_12_149 : jeOK (jcn 12) 149 (0, 12, 75, 0) := ⟨_, rfl, by decide, (jin_12 _ (List.mem_of_getElem? (i := 8) rfl))⟩
theorem jq_12_152 : jeOK (jcn 12) 152 (0, 12, 76, 0) := ⟨_, rfl, by decide, (jin_12 _ (List.mem_of_getElem? (i := 9) rfl))⟩
theorem jq_12_155 : jeOK (jcn 12) 155 (0, 12, 77, 0) := ⟨_, rfl, by decide, (jin_12 _ (List.mem_of_getElem? (i := 10) rfl))⟩
theorem jq_12_158 : jeOK (jcn 12) 158 (0, 12, 78, 0) := ⟨_, rfl, by decide, (jin_12 _ (List.mem_of_getElem? (i := 11) rfl))⟩
theorem jq_12_161 : jeOK (jcn 12) 161 (0, 12, 79, 0) := ⟨_, rfl, by decide, (jin_12 _ (List.mem_of_getElem? (i := 12) rfl))⟩
theorem jq_12_164 : jeOK (jcn 12) 164 (0, 12, 80, 0) := ⟨_, rfl, by decide, (jin_12 _ (List.mem_of_getElem? (i := 13) rfl))⟩
theorem jq_12_167 : jeOK (jcn 12) 167 (0, 12, 81, 0) := ⟨_, rfl, by decide, (jin_12 _ (List.mem_of_getElem? (i := 14) rfl))⟩
theorem jq_12_170 : jeOK (jcn 12) 170 (0, 12, 82, 0) := ⟨_, rfl, by decide, (jin_12 _ (List.mem_of_getElem? (i := 15) rfl))⟩
theorem jq_12_173 : jeOK (jcn 12) 173 (8, 0, 0, 1000000) := (jin_12 _ (List.mem_of_getElem? (i := 16) rfl))
theorem jq_12_175 : jeOK (jcn 12) 175 (8, 0, 0, 100000000) := (jin_12 _ (List.mem_of_getElem? (i := 17) rfl))
theorem jq_12_177 : jeOK (jcn 12) 177 (8, 0, 0, 1000000000) := (jin_12 _ (List.mem_of_getElem? (i := 18) rfl))
theorem jq_12_179 : jeOK (jcn 12) 179 (8, 0, 0, 10) := (jin_12 _ (List.mem_of_getElem? (i := 19) rfl))
theorem jq_12_181 : jeOK (jcn 12) 181 (0, 12, 1, 0) := ⟨_, rfl, by decide, (jin_13 _ (List.mem_of_getElem? (i := 14) rfl))⟩
theorem jq_12_184 : jeOK (jcn 12) 184 (1, 32, 0, 0) := (jin_13 _ (List.mem_of_getElem? (i := 15) rfl))
theorem jq_12_188 : jeOK (jcn 12) 188 (2, 96, 0, 0) := (jin_25 _ (List.mem_of_getElem? (i := 20) rfl))
theorem jq_12_192 : jeOK (jcn 12) 192 (0, 12, 4, 0) := ⟨_, rfl, by decide, (jin_26 _ (List.mem_of_getElem? (i := 16) rfl))⟩
theorem jq_12_195 : jeOK (jcn 12) 195 (1, 104, 0, 0) := (jin_27 _ (List.mem_of_getElem? (i := 11) rfl))
theorem jq_12_198 : jeOK (jcn 12) 198 (1, 110, 0, 0) := (jin_28 _ (List.mem_of_getElem? (i := 11) rfl))
theorem jq_12_202 : jeOK (jcn 12) 202 (1, 120, 0, 0) := (jin_30 _ (List.mem_of_getElem? (i := 4) rfl))
theorem jq_12_206 : jeOK (jcn 12) 206 (2, 121, 0, 0) := (jin_30 _ (List.mem_of_getElem? (i := 8) rfl))
theorem jq_12_210 : jeOK (jcn 12) 210 (1, 118, 0, 0) := (jin_29 _ (List.mem_of_getElem? (i := 20) rfl))
theorem jq_12_214 : jeOK (jcn 12) 214 (1, 119, 0, 0) := (jin_30 _ (List.mem_of_getElem? (i := 0) rfl))
theorem jq_12_217 : jeOK (jcn 12) 217 (7, 0, 0, 1000000) := (jin_32 _ (List.mem_of_getElem? (i := 9) rfl))
theorem jq_12_218 : jeOK (jcn 12) 218 (2, 133, 0, 0) := (jin_32 _ (List.mem_of_getElem? (i := 10) rfl))
theorem jq_12_222 : jeOK (jcn 12) 222 (1, 132, 0, 0) := (jin_32 _ (List.mem_of_getElem? (i := 5) rfl))
theorem jq_12_226 : jeOK (jcn 12) 226 (0, 12, 14, 0) := ⟨_, rfl, by decide, (jin_33 _ (List.mem_of_getElem? (i := 10) rfl))⟩
theorem jq_12_229 : jeOK (jcn 12) 229 (0, 12, 15, 0) := ⟨_, rfl, by decide, (jin_33 _ (List.mem_of_getElem? (i := 11) rfl))⟩
theorem jq_12_232 : jeOK (jcn 12) 232 (0, 12, 16, 0) := ⟨_, rfl, by decide, (jin_33 _ (List.mem_of_getElem? (i := 12) rfl))⟩
theorem jq_12_235 : jeOK (jcn 12) 235 (0, 12, 17, 0) := ⟨_, rfl, by decide, (jin_33 _ (List.mem_of_getElem? (i := 13) rfl))⟩
theorem jq_12_238 : jeOK (jcn 12) 238 (2, 146, 0, 0) := (jin_35 _ (List.mem_of_getElem? (i := 3) rfl))
theorem jq_12_241 : jeOK (jcn 12) 241 (2, 147, 0, 0) := (jin_35 _ (List.mem_of_getElem? (i := 6) rfl))
theorem jq_12_244 : jeOK (jcn 12) 244 (1, 148, 0, 0) := (jin_35 _ (List.mem_of_getElem? (i := 9) rfl))
theorem jq_12_248 : jeOK (jcn 12) 248 (1, 153, 0, 0) := (jin_36 _ (List.mem_of_getElem? (i := 8) rfl))
theorem jq_12_251 : jeOK (jcn 12) 251 (1, 159, 0, 0) := (jin_37 _ (List.mem_of_getElem? (i := 10) rfl))
theorem jq_12_254 : jeOK (jcn 12) 254 (1, 70, 0, 0) := (jin_21 _ (List.mem_of_getElem? (i := 1) rfl))
theorem jq_12_257 : jeOK (jcn 12) 257 (8, 0, 0, 7103860) := (jin_21 _ (List.mem_of_getElem? (i := 13) rfl))
theorem jq_12_259 : jeOK (jcn 12) 259 (8, 0, 0, 125780002955636) := (jin_21 _ (List.mem_of_getElem? (i := 14) rfl))
theorem jq_12_261 : jeOK (jcn 12) 261 (8, 0, 0, 26982) := (jin_21 _ (List.mem_of_getElem? (i := 15) rfl))
theorem jq_12_263 : jeOK (jcn 12) 263 (8, 0, 0, 1701606245) := (jin_21 _ (List.mem_of_getElem? (i := 16) rfl))
theorem jq_12_265 : jeOK (jcn 12) 265 (8, 0, 0, 6647396) := (jin_21 _ (List.mem_of_getElem? (i := 17) rfl))
theorem jq_12_267 : jeOK (jcn 12) 267 (8, 0, 0, 126948267617401) := (jin_21 _ (List.mem_of_getElem? (i := 18) rfl))
theorem jq_12_269 : jeOK (jcn 12) 269 (8, 0, 0, 126931137819237) := (jin_21 _ (List.mem_of_getElem? (i := 19) rfl))
theorem jq_12_271 : jeOK (jcn 12) 271 (8, 0, 0, 1668637285) := (jin_21 _ (List.mem_of_getElem? (i := 20) rfl))
theorem jq_12_273 : jeOK (jcn 12) 273 (8, 0, 0, 1919905652) := (jin_21 _ (List.mem_of_getElem? (i := 21) rfl))
theorem jq_12_275 : jeOK (jcn 12) 275 (8, 0, 0, 499967947364) := (jin_21 _ (List.mem_of_getElem? (i := 22) rfl))
theorem jq_12_277 : jeOK (jcn 12) 277 (8, 0, 0, 1870030194) := (jin_21 _ (List.mem_of_getElem? (i := 23) rfl))
theorem jq_12_279 : jeOK (jcn 12) 279 (0, 12, 20, 0) := ⟨_, rfl, by decide, (jin_20 _ (List.mem_of_getElem? (i := 18) rfl))⟩
theorem jq_12_282 : jeOK (jcn 12) 282 (1, 69, 0, 0) := (jin_20 _ (List.mem_of_getElem? (i := 21) rfl))
theorem jq_12_285 : jeOK (jcn 12) 285 (0, 12, 23, 0) := ⟨_, rfl, by decide, (jin_21 _ (List.mem_of_getElem? (i := 9) rfl))⟩
theorem jq_12_289 : jeOK (jcn 12) 289 (2, 72, 0, 0) := (jin_21 _ (List.mem_of_getElem? (i := 10) rfl))
theorem jq_12_293 : jeOK (jcn 12) 293 (0, 12, 22, 0) := ⟨_, rfl, by decide, (jin_20 _ (List.mem_of_getElem? (i := 20) rfl))⟩
theorem jq_12_296 : jeOK (jcn 12) 296 (0, 12, 19, 0) := ⟨_, rfl, by decide, (jin_20 _ (List.mem_of_getElem? (i := 19) rfl))⟩
theorem jq_12_299 : jeOK (jcn 12) 299 (0, 12, 21, 0) := ⟨_, rfl, by decide, (jin_20 _ (List.mem_of_getElem? (i := 11) rfl))⟩
theorem jq_12_302 : jeOK (jcn 12) 302 (1, 73, 0, 0) := (jin_22 _ (List.mem_of_getElem? (i := 0) rfl))
theorem jq_12_305 : jeOK (jcn 12) 305 (1, 71, 0, 0) := (jin_21 _ (List.mem_of_getElem? (i := 5) rfl))
theorem jq_12_308 : jeOK (jcn 12) 308 (1, 74, 0, 0) := (jin_22 _ (List.mem_of_getElem? (i := 4) rfl))
theorem jq_12_311 : jeOK (jcn 12) 311 (0, 12, 2, 0) := ⟨_, rfl, by decide, (jin_20 _ (List.mem_of_getElem? (i := 10) rfl))⟩
theorem jq_12_314 : jeOK (jcn 12) 314 (0, 12, 24, 0) := ⟨_, rfl, by decide, (jin_20 _ (List.mem_of_getElem? (i := 12) rfl))⟩
theorem jq_12_317 : jeOK (jcn 12) 317 (1, 76, 0, 0) := (jin_22 _ (List.mem_of_getElem? (i := 12) rfl))
theorem jq_12_320 : jeOK (jcn 12) 320 (1, 68, 0, 0) := (jin_20 _ (List.mem_of_getElem? (i := 14) rfl))
theorem jq_12_323 : jeOK (jcn 12) 323 (1, 82, 0, 0) := (jin_23 _ (List.mem_of_getElem? (i := 12) rfl))
theorem jq_12_326 : jeOK (jcn 12) 326 (1, 78, 0, 0) := (jin_22 _ (List.mem_of_getElem? (i := 20) rfl))
theorem jq_12_330 : jeOK (jcn 12) 330 (1, 84, 0, 0) := (jin_23 _ (List.mem_of_getElem? (i := 20) rfl))
theorem jq_12_333 : jeOK (jcn 12) 333 (1, 85, 0, 0) := (jin_24 _ (List.mem_of_getElem? (i := 0) rfl))
theorem jq_12_337 : jeOK (jcn 12) 337 (1, 79, 0, 0) := (jin_23 _ (List.mem_of_getElem? (i := 0) rfl))
theorem jq_12_341 : jeOK (jcn 12) 341 (1, 80, 0, 0) := (jin_23 _ (List.mem_of_getElem? (i := 4) rfl))
theorem jq_12_344 : jeOK (jcn 12) 344 (1, 81, 0, 0) := (jin_23 _ (List.mem_of_getElem? (i := 8) rfl))
theorem jq_12_347 : jeOK (jcn 12) 347 (1, 83, 0, 0) := (jin_23 _ (List.mem_of_getElem? (i := 16) rfl))
theorem jq_12_350 : jeOK (jcn 12) 350 (0, 12, 40, 0) := ⟨_, rfl, by decide, (jin_20 _ (List.mem_of_getElem? (i := 13) rfl))⟩
theorem jq_12_353 : jeOK (jcn 12) 353 (1, 88, 0, 0) := (jin_24 _ (List.mem_of_getElem? (i := 12) rfl))
theorem jq_12_356 : jeOK (jcn 12) 356 (1, 77, 0, 0) := (jin_22 _ (List.mem_of_getElem? (i := 16) rfl))
theorem jq_12_359 : jeOK (jcn 12) 359 (1, 86, 0, 0) := (jin_24 _ (List.mem_of_getElem? (i := 4) rfl))
theorem jq_12_362 : jeOK (jcn 12) 362 (1, 87, 0, 0) := (jin_24 _ (List.mem_of_getElem? (i := 8) rfl))
theorem jq_12_365 : jeOK (jcn 12) 365 (1, 89, 0, 0) := (jin_24 _ (List.mem_of_getElem? (i := 16) rfl))
theorem jq_12_368 : jeOK (jcn 12) 368 (1, 90, 0, 0) := (jin_24 _ (List.mem_of_getElem? (i := 20) rfl))
theorem jq_12_371 : jeOK (jcn 12) 371 (1, 75, 0, 0) := (jin_22 _ (List.mem_of_getElem? (i := 8) rfl))
theorem jq_12_374 : jeOK (jcn 12) 374 (0, 12, 52, 0) := ⟨_, rfl, by decide, (jin_45 _ (List.mem_of_getElem? (i := 20) rfl))⟩
theorem jq_12_377 : jeOK (jcn 12) 377 (0, 12, 48, 0) := ⟨_, rfl, by decide, (jin_45 _ (List.mem_of_getElem? (i := 17) rfl))⟩
theorem jq_12_380 : jeOK (jcn 12) 380 (1, 199, 0, 0) := (jin_46 _ (List.mem_of_getElem? (i := 8) rfl))
theorem jq_12_383 : jeOK (jcn 12) 383 (1, 207, 0, 0) := (jin_47 _ (List.mem_of_getElem? (i := 17) rfl))
theorem jq_12_386 : jeOK (jcn 12) 386 (1, 206, 0, 0) := (jin_47 _ (List.mem_of_getElem? (i := 13) rfl))
theorem jq_12_389 : jeOK (jcn 12) 389 (1, 205, 0, 0) := (jin_47 _ (List.mem_of_getElem? (i := 9) rfl))
theorem jq_12_392 : jeOK (jcn 12) 392 (0, 12, 50, 0) := ⟨_, rfl, by decide, (jin_45 _ (List.mem_of_getElem? (i := 19) rfl))⟩
theorem jq_12_395 : jeOK (jcn 12) 395 (1, 208, 0, 0) := (jin_47 _ (List.mem_of_getElem? (i := 21) rfl))
theorem jq_12_398 : jeOK (jcn 12) 398 (1, 198, 0, 0) := (jin_46 _ (List.mem_of_getElem? (i := 4) rfl))
theorem jq_12_401 : jeOK (jcn 12) 401 (1, 202, 0, 0) := (jin_46 _ (List.mem_of_getElem? (i := 21) rfl))
theorem jq_12_404 : jeOK (jcn 12) 404 (1, 203, 0, 0) := (jin_47 _ (List.mem_of_getElem? (i := 1) rfl))
theorem jq_12_408 : jeOK (jcn 12) 408 (1, 204, 0, 0) := (jin_47 _ (List.mem_of_getElem? (i := 5) rfl))
theorem jq_12_411 : jeOK (jcn 12) 411 (1, 209, 0, 0) := (jin_48 _ (List.mem_of_getElem? (i := 1) rfl))
theorem jq_12_414 : jeOK (jcn 12) 414 (2, 210, 0, 0) := (jin_48 _ (List.mem_of_getElem? (i := 5) rfl))
theorem jq_12_417 : jeOK (jcn 12) 417 (0, 12, 49, 0) := ⟨_, rfl, by decide, (jin_45 _ (List.mem_of_getElem? (i := 18) rfl))⟩
theorem jq_12_420 : jeOK (jcn 12) 420 (0, 12, 57, 0) := ⟨_, rfl, by decide, (jin_46 _ (List.mem_of_getElem? (i := 16) rfl))⟩
theorem jq_12_423 : jeOK (jcn 12) 423 (1, 212, 0, 0) := (jin_48 _ (List.mem_of_getElem? (i := 12) rfl))
theorem jq_12_426 : jeOK (jcn 12) 426 (1, 201, 0, 0) := (jin_46 _ (List.mem_of_getElem? (i := 17) rfl))
theorem jq_12_429 : jeOK (jcn 12) 429 (1, 211, 0, 0) := (jin_48 _ (List.mem_of_getElem? (i := 8) rfl))
theorem jq_12_432 : jeOK (jcn 12) 432 (1, 213, 0, 0) := (jin_48 _ (List.mem_of_getElem? (i := 16) rfl))
theorem jq_12_436 : jeOK (jcn 12) 436 (1, 215, 0, 0) := (jin_49 _ (List.mem_of_getElem? (i := 0) rfl))
theorem jq_12_439 : jeOK (jcn 12) 439 (1, 216, 0, 0) := (jin_49 _ (List.mem_of_getElem? (i := 4) rfl))
theorem jq_12_442 : jeOK (jcn 12) 442 (0, 12, 53, 0) := ⟨_, rfl, by decide, (jin_45 _ (List.mem_of_getElem? (i := 22) rfl))⟩
theorem jq_12_445 : jeOK (jcn 12) 445 (1, 200, 0, 0) := (jin_46 _ (List.mem_of_getElem? (i := 12) rfl))
theorem jq_12_448 : jeOK (jcn 12) 448 (1, 214, 0, 0) := (jin_48 _ (List.mem_of_getElem? (i := 20) rfl))
theorem jq_12_451 : jeOK (jcn 12) 451 (1, 197, 0, 0) := (jin_46 _ (List.mem_of_getElem? (i := 0) rfl))
theorem jq_12_454 : jeOK (jcn 12) 454 (0, 12, 54, 0) := ⟨_, rfl, by decide, (jin_45 _ (List.mem_of_getElem? (i := 21) rfl))⟩
theorem jq_12_457 : jeOK (jcn 12) 457 (0, 12, 51, 0) := ⟨_, rfl, by decide, (jin_45 _ (List.mem_of_getElem? (i := 23) rfl))⟩
theorem jq_12_460 : jeOK (jcn 12) 460 (0, 12, 58, 0) := ⟨_, rfl, by decide, (jin_51 _ (List.mem_of_getElem? (i := 18) rfl))⟩
theorem jq_12_463 : jeOK (jcn 12) 463 (0, 12, 67, 0) := ⟨_, rfl, by decide, (jin_54 _ (List.mem_of_getElem? (i := 13) rfl))⟩
theorem jq_12_466 : jeOK (jcn 12) 466 (0, 12, 68, 0) := ⟨_, rfl, by decide, (jin_54 _ (List.mem_of_getElem? (i := 14) rfl))⟩
theorem jq_12_469 : jeOK (jcn 12) 469 (0, 12, 69, 0) := ⟨_, rfl, by decide, (jin_54 _ (List.mem_of_getElem? (i := 15) rfl))⟩
theorem jq_12_472 : jeOK (jcn 12) 472 (1, 243, 0, 0) := (jin_55 _ (List.mem_of_getElem? (i := 0) rfl))
theorem jq_12_475 : jeOK (jcn 12) 475 (1, 241, 0, 0) := (jin_54 _ (List.mem_of_getElem? (i := 16) rfl))
theorem jq_12_478 : jeOK (jcn 12) 478 (0, 12, 64, 0) := ⟨_, rfl, by decide, (jin_54 _ (List.mem_of_getElem? (i := 6) rfl))⟩
theorem jq_12_481 : jeOK (jcn 12) 481 (0, 12, 65, 0) := ⟨_, rfl, by decide, (jin_54 _ (List.mem_of_getElem? (i := 7) rfl))⟩
theorem jq_12_484 : jeOK (jcn 12) 484 (0, 12, 66, 0) := ⟨_, rfl, by decide, (jin_54 _ (List.mem_of_getElem? (i := 8) rfl))⟩
theorem jq_12_487 : jeOK (jcn 12) 487 (1, 242, 0, 0) := (jin_54 _ (List.mem_of_getElem? (i := 20) rfl))
theorem jq_12_490 : jeOK (jcn 12) 490 (1, 240, 0, 0) := (jin_54 _ (List.mem_of_getElem? (i := 9) rfl))
theorem jq_12_493 : jeOK (jcn 12) 493 (2, 254, 0, 0) := (jin_56 _ (List.mem_of_getElem? (i := 22) rfl))
theorem jq_12_496 : jeOK (jcn 12) 496 (1, 255, 0, 0) := (jin_57 _ (List.mem_of_getElem? (i := 1) rfl))
theorem jq_12_500 : jeOK (jcn 12) 500 (1, 253, 0, 0) := (jin_56 _ (List.mem_of_getElem? (i := 18) rfl))
theorem jq_12_504 : jeOK (jcn 12) 504 (0, 12, 74, 0) := ⟨_, rfl, by decide, (jin_60 _ (List.mem_of_getElem? (i := 17) rfl))⟩
theorem jq_12_507 : jeOK (jcn 12) 507 (1, 290, 0, 0) := (jin_63 _ (List.mem_of_getElem? (i := 12) rfl))
theorem jq_12_511 : jeOK (jcn 12) 511 (1, 289, 0, 0) := (jin_63 _ (List.mem_of_getElem? (i := 8) rfl))
theorem jq_12_514 : jeOK (jcn 12) 514 (0, 12, 83, 0) := ⟨_, rfl, by decide, (jin_63 _ (List.mem_of_getElem? (i := 6) rfl))⟩
theorem jq_12_517 : jeOK (jcn 12) 517 (0, 12, 84, 0) := ⟨_, rfl, by decide, (jin_63 _ (List.mem_of_getElem? (i := 7) rfl))⟩
theorem jq_12_520 : jeOK (jcn 12) 520 (1, 286, 0, 0) := (jin_62 _ (List.mem_of_getElem? (i := 18) rfl))
theorem jq_12_523 : jeOK (jcn 12) 523 (1, 287, 0, 0) := (jin_62 _ (List.mem_of_getElem? (i := 22) rfl))
theorem jq_12_526 : jeOK (jcn 12) 526 (1, 288, 0, 0) := (jin_63 _ (List.mem_of_getElem? (i := 2) rfl))
theorem jo_12 : jall (jeOK (jcn 12)) 0 jp_12 := ⟨⟨jq_12_1, jq_12_7, jq_12_13, trivial⟩, ⟨jq_12_17, jq_12_21, jq_12_25, jq_12_28, jq_12_31, trivial⟩, ⟨jq_12_34, jq_12_37, jq_12_40, jq_12_43, jq_12_46, trivial⟩, ⟨jq_12_49, jq_12_52, jq_12_55, jq_12_58, jq_12_61, trivial⟩, ⟨jq_12_64, jq_12_67, jq_12_70, jq_12_73, jq_12_76, jq_12_79, trivial⟩, ⟨jq_12_82, jq_12_85, jq_12_88, jq_12_92, jq_12_95, trivial⟩, ⟨jq_12_98, jq_12_101, jq_12_104, jq_12_107, jq_12_110, trivial⟩, ⟨jq_12_113, jq_12_116, jq_12_119, jq_12_122, jq_12_125, trivial⟩, ⟨jq_12_128, jq_12_131, jq_12_134, jq_12_137, jq_12_140, jq_12_143, trivial⟩, ⟨jq_12_146, jq_12_149, jq_12_152, jq_12_155, jq_12_158, trivial⟩, ⟨jq_12_161, jq_12_164, jq_12_167, jq_12_170, jq_12_173, jq_12_175, trivial⟩, ⟨jq_12_177, jq_12_179, jq_12_181, jq_12_184, jq_12_188, trivial⟩, ⟨jq_12_192, jq_12_195, jq_12_198, jq_12_202, jq_12_206, trivial⟩, ⟨jq_12_210, jq_12_214, jq_12_217, jq_12_218, jq_12_222, trivial⟩, ⟨jq_12_226, jq_12_229, jq_12_232, jq_12_235, jq_12_238, trivial⟩, ⟨jq_12_241, jq_12_244, jq_12_248, jq_12_251, jq_12_254, trivial⟩, ⟨jq_12_257, jq_12_259, jq_12_261, jq_12_263, jq_12_265, jq_12_267, jq_12_269, jq_12_271, trivial⟩, ⟨jq_12_273, jq_12_275, jq_12_277, jq_12_279, jq_12_282, jq_12_285, trivial⟩, ⟨jq_12_289, jq_12_293, jq_12_296, jq_12_299, jq_12_302, trivial⟩, ⟨jq_12_305, jq_12_308, jq_12_311, jq_12_314, jq_12_317, trivial⟩, ⟨jq_12_320, jq_12_323, jq_12_326, jq_12_330, jq_12_333, trivial⟩, ⟨jq_12_337, jq_12_341, jq_12_344, jq_12_347, jq_12_350, trivial⟩, ⟨jq_12_353, jq_12_356, jq_12_359, jq_12_362, jq_12_365, trivial⟩, ⟨jq_12_368, jq_12_371, jq_12_374, jq_12_377, jq_12_380, jq_12_383, trivial⟩, ⟨jq_12_386, jq_12_389, jq_12_392, jq_12_395, jq_12_398, trivial⟩, ⟨jq_12_401, jq_12_404, jq_12_408, jq_12_411, jq_12_414, trivial⟩, ⟨jq_12_417, jq_12_420, jq_12_423, jq_12_426, jq_12_429, trivial⟩, ⟨jq_12_432, jq_12_436, jq_12_439, jq_12_442, jq_12_445, trivial⟩, ⟨jq_12_448, jq_12_451, jq_12_454, jq_12_457, jq_12_460, jq_12_463, trivial⟩, ⟨jq_12_466, jq_12_469, jq_12_472, jq_12_475, jq_12_478, trivial⟩, ⟨jq_12_481, jq_12_484, jq_12_487, jq_12_490, jq_12_493, trivial⟩, ⟨jq_12_496, jq_12_500, jq_12_504, jq_12_507, jq_12_511, trivial⟩, ⟨jq_12_514, jq_12_517, jq_12_520, jq_12_523, jq_12_526, trivial⟩, trivial⟩
theorem jq_13_9 : jeOK (jcn 13) 9 (12, 0, 0, 0) := (jin_4 _ (List.mem_of_getElem? (i := 16) rfl))
theorem jq_13_15 : jeOK (jcn 13) 15 (12, 1, 0, 0) := (jin_4 _ (List.mem_of_getElem? (i := 22) rfl))
theorem jq_13_38 : jeOK (jcn 13) 38 (11, 1, 0, 0) := (jin_4 _ (List.mem_of_getElem? (i := 21) rfl))
theorem jq_13_335 : jeOK (jcn 13) 335 (1, 8, 0, 0) := (jin_4 _ (List.mem_of_getElem? (i := 17) rfl))
theorem jq_13_492 : jeOK (jcn 13) 492 (1, 10, 0, 0) := (jin_5 _ (List.mem_of_getElem? (i := 3) rfl))
theorem jq_13_495 : jeOK (jcn 13) 495 (2, 11, 0, 0) := (jin_5 _ (List.mem_of_getElem? (i := 7) rfl))
theorem jq_13_498 : jeOK (jcn 13) 498 (2, 14, 0, 0) := (jin_5 _ (List.mem_of_getElem? (i := 19) rfl))
theorem jq_13_1053 : jeOK (jcn 13) 1053 (11, 2, 0, 0) := (jin_5 _ (List.mem_of_getElem? (i := 14) rfl))
theorem jq_13_1059 : jeOK (jcn 13) 1059 (2, 13, 0, 0) := (jin_5 _ (List.mem_of_getElem? (i := 15) rfl))
theorem jo_13 : jall (jeOK (jcn 13)) 0 jp_13 := ⟨⟨jq_13_9, jq_13_15, trivial⟩, trivial, ⟨jq_13_38, trivial⟩, trivial, trivial, trivial, trivial, trivial, trivial, trivial, trivial, trivial, trivial, trivial, trivial, trivial, trivial, trivial, trivial, trivial, ⟨jq_13_335, trivial⟩, trivial, trivial, trivial, trivial, trivial, trivial, trivial, trivial, trivial, ⟨jq_13_492, jq_13_495, trivial⟩, ⟨jq_13_498, trivial⟩, trivial, trivial, trivial, trivial, trivial, trivial, trivial, trivial, trivial, trivial, trivial, trivial, trivial, trivial, trivial, trivial, trivial, trivial, trivial, trivial, trivial, trivial, trivial, trivial, trivial, trivial, trivial, trivial, trivial, trivial, trivial, trivial, trivial, ⟨jq_13_1053, trivial⟩, ⟨jq_13_1059, trivial⟩, trivial⟩
theorem jq_14_9 : jeOK (jcn 14) 9 (2, 12, 0, 0) := (jin_5 _ (List.mem_of_getElem? (i := 11) rfl))
theorem jo_14 : jall (jeOK (jcn 14)) 0 jp_14 := ⟨⟨jq_14_9, trivial⟩, trivial⟩
theorem jq_15_48 : jeOK (jcn 15) 48 (2, 16, 0, 0) := (jin_6 _ (List.mem_of_getElem? (i := 2) rfl))
theorem jq_15_67 : jeOK (jcn 15) 67 (2, 15, 0, 0) := (jin_5 _ (List.mem_of_getElem? (i := 23) rfl))
theorem jq_15_71 : jeOK (jcn 15) 71 (2, 17, 0, 0) := (jin_6 _ (List.mem_of_getElem? (i := 6) rfl))
theorem jq_15_414 : jeOK (jcn 15) 414 (2, 12, 0, 0) := (jin_6 _ (List.mem_of_getElem? (i := 5) rfl))
theorem jo_15 : jall (jeOK (jcn 15)) 0 jp_15 := ⟨trivial, trivial, trivial, ⟨jq_15_48, trivial⟩, ⟨jq_15_67, jq_15_71, trivial⟩, trivial, trivial, trivial, trivial, trivial, trivial, trivial, trivial, trivial, trivial, trivial, trivial, trivial, trivial, trivial, trivial, trivial, trivial, trivial, trivial, ⟨jq_15_414, trivial⟩, trivial⟩
theorem jq_19_7 : jeOK (jcn 19) 7 (10, 11, 0, 0) := ⟨_, rfl, (jin_1 _ (List.mem_of_getElem? (i := 0) rfl))⟩
theorem jq_19_9 : jeOK (jcn 19) 9 (3, 0, 0, 0) := (jin_1 _ (List.mem_of_getElem? (i := 6) rfl))
theorem jq_19_10 : jeOK (jcn 19) 10 (10, 12, 0, 0) := ⟨_, rfl, (jin_1 _ (List.mem_of_getElem? (i := 3) rfl))⟩
theorem jq_19_12 : jeOK (jcn 19) 12 (3, 27, 0, 0) := (jin_10 _ (List.mem_of_getElem? (i := 6) rfl))
theorem jq_19_13 : jeOK (jcn 19) 13 (1, 28, 0, 0) := (jin_12 _ (List.mem_of_getElem? (i := 20) rfl))
theorem jq_19_17 : jeOK (jcn 19) 17 (1, 31, 0, 0) := (jin_13 _ (List.mem_of_getElem? (i := 10) rfl))
theorem jq_19_18 : jeOK (jcn 19) 18 (1, 33, 0, 0) := (jin_13 _ (List.mem_of_getElem? (i := 19) rfl))
theorem jq_19_22 : jeOK (jcn 19) 22 (1, 34, 0, 0) := (jin_13 _ (List.mem_of_getElem? (i := 23) rfl))
theorem jq_19_23 : jeOK (jcn 19) 23 (1, 35, 0, 0) := (jin_14 _ (List.mem_of_getElem? (i := 3) rfl))
theorem jq_19_27 : jeOK (jcn 19) 27 (1, 67, 0, 0) := (jin_20 _ (List.mem_of_getElem? (i := 6) rfl))
theorem jq_19_28 : jeOK (jcn 19) 28 (1, 91, 0, 0) := (jin_25 _ (List.mem_of_getElem? (i := 0) rfl))
theorem jq_19_31 : jeOK (jcn 19) 31 (1, 92, 0, 0) := (jin_25 _ (List.mem_of_getElem? (i := 4) rfl))
theorem jq_19_32 : jeOK (jcn 19) 32 (1, 93, 0, 0) := (jin_25 _ (List.mem_of_getElem? (i := 8) rfl))
theorem jq_19_35 : jeOK (jcn 19) 35 (1, 95, 0, 0) := (jin_25 _ (List.mem_of_getElem? (i := 16) rfl))
theorem jq_19_36 : jeOK (jcn 19) 36 (1, 97, 0, 0) := (jin_25 _ (List.mem_of_getElem? (i := 23) rfl))
theorem jq_19_39 : jeOK (jcn 19) 39 (1, 99, 0, 0) := (jin_26 _ (List.mem_of_getElem? (i := 12) rfl))
theorem jq_19_40 : jeOK (jcn 19) 40 (1, 100, 0, 0) := (jin_26 _ (List.mem_of_getElem? (i := 17) rfl))
theorem jq_19_44 : jeOK (jcn 19) 44 (1, 103, 0, 0) := (jin_27 _ (List.mem_of_getElem? (i := 7) rfl))
theorem jq_19_45 : jeOK (jcn 19) 45 (1, 105, 0, 0) := (jin_27 _ (List.mem_of_getElem? (i := 15) rfl))
theorem jq_19_49 : jeOK (jcn 19) 49 (1, 109, 0, 0) := (jin_28 _ (List.mem_of_getElem? (i := 7) rfl))
theorem jq_19_50 : jeOK (jcn 19) 50 (1, 111, 0, 0) := (jin_28 _ (List.mem_of_getElem? (i := 15) rfl))
theorem jq_19_54 : jeOK (jcn 19) 54 (1, 112, 0, 0) := (jin_28 _ (List.mem_of_getElem? (i := 21) rfl))
theorem jq_19_55 : jeOK (jcn 19) 55 (1, 113, 0, 0) := (jin_29 _ (List.mem_of_getElem? (i := 1) rfl))
theorem jq_19_59 : jeOK (jcn 19) 59 (1, 117, 0, 0) := (jin_29 _ (List.mem_of_getElem? (i := 16) rfl))
theorem jq_19_60 : jeOK (jcn 19) 60 (1, 122, 0, 0) := (jin_30 _ (List.mem_of_getElem? (i := 11) rfl))
theorem jq_19_63 : jeOK (jcn 19) 63 (1, 131, 0, 0) := (jin_32 _ (List.mem_of_getElem? (i := 1) rfl))
theorem jq_19_64 : jeOK (jcn 19) 64 (1, 134, 0, 0) := (jin_32 _ (List.mem_of_getElem? (i := 13) rfl))
theorem jq_19_68 : jeOK (jcn 19) 68 (1, 137, 0, 0) := (jin_33 _ (List.mem_of_getElem? (i := 6) rfl))
theorem jq_19_69 : jeOK (jcn 19) 69 (1, 138, 0, 0) := (jin_33 _ (List.mem_of_getElem? (i := 14) rfl))
theorem jq_19_73 : jeOK (jcn 19) 73 (1, 145, 0, 0) := (jin_34 _ (List.mem_of_getElem? (i := 23) rfl))
theorem jq_19_74 : jeOK (jcn 19) 74 (1, 149, 0, 0) := (jin_35 _ (List.mem_of_getElem? (i := 13) rfl))
theorem jq_19_77 : jeOK (jcn 19) 77 (1, 152, 0, 0) := (jin_36 _ (List.mem_of_getElem? (i := 4) rfl))
theorem jq_19_78 : jeOK (jcn 19) 78 (1, 154, 0, 0) := (jin_36 _ (List.mem_of_getElem? (i := 12) rfl))
theorem jq_19_82 : jeOK (jcn 19) 82 (1, 155, 0, 0) := (jin_36 _ (List.mem_of_getElem? (i := 17) rfl))
theorem jq_19_83 : jeOK (jcn 19) 83 (1, 156, 0, 0) := (jin_36 _ (List.mem_of_getElem? (i := 21) rfl))
theorem jq_19_87 : jeOK (jcn 19) 87 (1, 158, 0, 0) := (jin_37 _ (List.mem_of_getElem? (i := 6) rfl))
theorem jq_19_88 : jeOK (jcn 19) 88 (1, 160, 0, 0) := (jin_37 _ (List.mem_of_getElem? (i := 14) rfl))
theorem jq_19_91 : jeOK (jcn 19) 91 (1, 161, 0, 0) := (jin_37 _ (List.mem_of_getElem? (i := 21) rfl))
theorem jq_19_92 : jeOK (jcn 19) 92 (1, 162, 0, 0) := (jin_38 _ (List.mem_of_getElem? (i := 1) rfl))
theorem jq_19_95 : jeOK (jcn 19) 95 (1, 196, 0, 0) := (jin_45 _ (List.mem_of_getElem? (i := 13) rfl))
theorem jq_19_96 : jeOK (jcn 19) 96 (1, 217, 0, 0) := (jin_49 _ (List.mem_of_getElem? (i := 8) rfl))
theorem jq_19_99 : jeOK (jcn 19) 99 (1, 218, 0, 0) := (jin_49 _ (List.mem_of_getElem? (i := 13) rfl))
theorem jq_19_100 : jeOK (jcn 19) 100 (1, 219, 0, 0) := (jin_49 _ (List.mem_of_getElem? (i := 17) rfl))
theorem jq_19_103 : jeOK (jcn 19) 103 (1, 220, 0, 0) := (jin_49 _ (List.mem_of_getElem? (i := 22) rfl))
theorem jq_19_104 : jeOK (jcn 19) 104 (1, 221, 0, 0) := (jin_50 _ (List.mem_of_getElem? (i := 2) rfl))
theorem jq_19_107 : jeOK (jcn 19) 107 (1, 222, 0, 0) := (jin_50 _ (List.mem_of_getElem? (i := 7) rfl))
theorem jq_19_108 : jeOK (jcn 19) 108 (1, 223, 0, 0) := (jin_50 _ (List.mem_of_getElem? (i := 11) rfl))
theorem jq_19_111 : jeOK (jcn 19) 111 (1, 226, 0, 0) := (jin_51 _ (List.mem_of_getElem? (i := 0) rfl))
theorem jq_19_112 : jeOK (jcn 19) 112 (1, 227, 0, 0) := (jin_51 _ (List.mem_of_getElem? (i := 4) rfl))
theorem jq_19_116 : jeOK (jcn 19) 116 (1, 229, 0, 0) := (jin_51 _ (List.mem_of_getElem? (i := 14) rfl))
theorem jq_19_117 : jeOK (jcn 19) 117 (1, 230, 0, 0) := (jin_51 _ (List.mem_of_getElem? (i := 19) rfl))
theorem jq_19_120 : jeOK (jcn 19) 120 (1, 232, 0, 0) := (jin_52 _ (List.mem_of_getElem? (i := 3) rfl))
theorem jq_19_121 : jeOK (jcn 19) 121 (1, 233, 0, 0) := (jin_52 _ (List.mem_of_getElem? (i := 7) rfl))
theorem jq_19_124 : jeOK (jcn 19) 124 (1, 239, 0, 0) := (jin_54 _ (List.mem_of_getElem? (i := 2) rfl))
theorem jq_19_125 : jeOK (jcn 19) 125 (1, 244, 0, 0) := (jin_55 _ (List.mem_of_getElem? (i := 4) rfl))
theorem jq_19_128 : jeOK (jcn 19) 128 (1, 246, 0, 0) := (jin_55 _ (List.mem_of_getElem? (i := 13) rfl))
theorem jq_19_129 : jeOK (jcn 19) 129 (1, 247, 0, 0) := (jin_55 _ (List.mem_of_getElem? (i := 17) rfl))
theorem jq_19_132 : jeOK (jcn 19) 132 (1, 252, 0, 0) := (jin_56 _ (List.mem_of_getElem? (i := 14) rfl))
theorem jq_19_133 : jeOK (jcn 19) 133 (1, 256, 0, 0) := (jin_57 _ (List.mem_of_getElem? (i := 5) rfl))
theorem jq_19_136 : jeOK (jcn 19) 136 (1, 258, 0, 0) := (jin_57 _ (List.mem_of_getElem? (i := 14) rfl))
theorem jq_19_137 : jeOK (jcn 19) 137 (1, 259, 0, 0) := (jin_57 _ (List.mem_of_getElem? (i := 18) rfl))
theorem jq_19_140 : jeOK (jcn 19) 140 (1, 261, 0, 0) := (jin_58 _ (List.mem_of_getElem? (i := 2) rfl))
theorem jq_19_141 : jeOK (jcn 19) 141 (1, 262, 0, 0) := (jin_58 _ (List.mem_of_getElem? (i := 6) rfl))
theorem jq_19_144 : jeOK (jcn 19) 144 (1, 265, 0, 0) := (jin_59 _ (List.mem_of_getElem? (i := 2) rfl))
theorem jq_19_145 : jeOK (jcn 19) 145 (1, 266, 0, 0) := (jin_59 _ (List.mem_of_getElem? (i := 6) rfl))
theorem jq_19_148 : jeOK (jcn 19) 148 (1, 269, 0, 0) := (jin_59 _ (List.mem_of_getElem? (i := 16) rfl))
theorem jq_19_149 : jeOK (jcn 19) 149 (1, 270, 0, 0) := (jin_59 _ (List.mem_of_getElem? (i := 20) rfl))
theorem jq_19_153 : jeOK (jcn 19) 153 (1, 274, 0, 0) := (jin_60 _ (List.mem_of_getElem? (i := 13) rfl))
theorem jq_19_154 : jeOK (jcn 19) 154 (1, 275, 0, 0) := (jin_60 _ (List.mem_of_getElem? (i := 18) rfl))
theorem jq_19_157 : jeOK (jcn 19) 157 (1, 277, 0, 0) := (jin_61 _ (List.mem_of_getElem? (i := 2) rfl))
theorem jq_19_158 : jeOK (jcn 19) 158 (1, 278, 0, 0) := (jin_61 _ (List.mem_of_getElem? (i := 6) rfl))
theorem jq_19_161 : jeOK (jcn 19) 161 (1, 285, 0, 0) := (jin_62 _ (List.mem_of_getElem? (i := 14) rfl))
theorem jq_19_162 : jeOK (jcn 19) 162 (1, 291, 0, 0) := (jin_63 _ (List.mem_of_getElem? (i := 16) rfl))
theorem jq_19_165 : jeOK (jcn 19) 165 (1, 294, 0, 0) := (jin_64 _ (List.mem_of_getElem? (i := 4) rfl))
theorem jq_19_166 : jeOK (jcn 19) 166 (1, 295, 0, 0) := (jin_64 _ (List.mem_of_getElem? (i := 8) rfl))
theorem jq_19_169 : jeOK (jcn 19) 169 (1, 297, 0, 0) := (jin_64 _ (List.mem_of_getElem? (i := 17) rfl))
theorem jq_19_170 : jeOK (jcn 19) 170 (1, 298, 0, 0) := (jin_64 _ (List.mem_of_getElem? (i := 21) rfl))
theorem jq_19_173 : jeOK (jcn 19) 173 (1, 300, 0, 0) := (jin_65 _ (List.mem_of_getElem? (i := 5) rfl))
theorem jq_19_174 : jeOK (jcn 19) 174 (1, 301, 0, 0) := (jin_65 _ (List.mem_of_getElem? (i := 9) rfl))
theorem jq_19_177 : jeOK (jcn 19) 177 (1, 302, 0, 0) := (jin_65 _ (List.mem_of_getElem? (i := 13) rfl))
theorem jo_19 : jall (jeOK (jcn 19)) 0 jp_19 := ⟨⟨jq_19_7, jq_19_9, jq_19_10, jq_19_12, jq_19_13, trivial⟩, ⟨jq_19_17, jq_19_18, jq_19_22, jq_19_23, jq_19_27, jq_19_28, jq_19_31, trivial⟩, ⟨jq_19_32, jq_19_35, jq_19_36, jq_19_39, jq_19_40, jq_19_44, jq_19_45, trivial⟩, ⟨jq_19_49, jq_19_50, jq_19_54, jq_19_55, jq_19_59, jq_19_60, jq_19_63, trivial⟩, ⟨jq_19_64, jq_19_68, jq_19_69, jq_19_73, jq_19_74, jq_19_77, jq_19_78, trivial⟩, ⟨jq_19_82, jq_19_83, jq_19_87, jq_19_88, jq_19_91, jq_19_92, jq_19_95, trivial⟩, ⟨jq_19_96, jq_19_99, jq_19_100, jq_19_103, jq_19_104, jq_19_107, jq_19_108, jq_19_111, trivial⟩, ⟨jq_19_112, jq_19_116, jq_19_117, jq_19_120, jq_19_121, jq_19_124, jq_19_125, trivial⟩, ⟨jq_19_128, jq_19_129, jq_19_132, jq_19_133, jq_19_136, jq_19_137, jq_19_140, jq_19_141, trivial⟩, ⟨jq_19_144, jq_19_145, jq_19_148, jq_19_149, jq_19_153, jq_19_154, jq_19_157, jq_19_158, trivial⟩, ⟨jq_19_161, jq_19_162, jq_19_165, jq_19_166, jq_19_169, jq_19_170, jq_19_173, jq_19_174, trivial⟩, ⟨jq_19_177, trivial⟩, trivial⟩