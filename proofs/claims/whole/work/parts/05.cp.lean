/-- an entry of a class: kind, two numbers, a constant -/
abbrev JE : Type := Nat × Nat × Nat × Int
def jcn : Nat → String := fun k => match k with
  | 0 => RX0
  | 1 => RX1
  | 2 => RX2
  | 3 => RX3
  | 4 => RX4
  | 5 => RX5
  | 6 => RX6
  | 7 => RX7
  | 8 => RX8
  | 9 => RX9
  | 10 => RX10
  | 11 => RX11
  | 12 => RX12
  | 13 => RJ0
  | 14 => RJ1
  | 15 => RJ2
  | 16 => RJ3
  | 17 => RJ9
  | 18 => RJ10
  | _ => RL
def jp_0 : List (List (Option JE)) := [[none, none, none, none, none, none, none, none, none, some (5, 0, 0, 0), none, none, none, none, none, some (0, 0, 0, 0)],
  [none, none, none, some (0, 0, 1, 0), none, none, some (0, 0, 2, 0), none, none, some (0, 0, 3, 0), none, none, some (0, 0, 4, 0), none, none, some (0, 0, 6, 0)],
  [none, none, none, some (0, 0, 7, 0), none, none, some (0, 0, 8, 0), none, none, some (0, 0, 10, 0), none, none, some (2, 273, 0, 0), none, none, none],
  [some (0, 0, 5, 0), none, none, none, some (1, 282, 0, 0), none, none, none, some (2, 180, 0, 0), none, none, none, none, none, some (0, 0, 9, 0), none],
  [none, some (2, 125, 0, 0), none, none, some (1, 283, 0, 0), none, none, none, some (2, 284, 0, 0), none, none, some (1, 294, 0, 0)]]
def jp_1 : List (List (Option JE)) := [[none, none, none, some (5, 0, 0, 0), none, none, none, none, none, some (0, 1, 0, 0), none, none, none, none, none, some (0, 1, 1, 0)],
  [none, none, some (0, 1, 2, 0), none, none, some (0, 1, 3, 0), none, none, some (2, 4, 0, 0), none, none, none, none, none, some (2, 192, 0, 0), none],
  [none, some (2, 269, 0, 0)]]
def jp_2 : List (List (Option JE)) := [[none, none, none, some (5, 0, 0, 0), none, none, none, none, none, some (0, 2, 0, 0), none, none, none, none, none, some (0, 2, 1, 0)],
  [none, none, some (0, 2, 3, 0), none, none, some (0, 2, 2, 0), none, none, none, some (1, 136, 0, 0), none, none, none, some (0, 2, 4, 0), none, none],
  [some (0, 2, 5, 0), none, none, some (0, 2, 6, 0), none, none, some (0, 2, 7, 0), none, none, some (0, 2, 8, 0), none, none, some (0, 2, 9, 0), none, none, some (0, 2, 10, 0)],
  [none, none, some (1, 108, 0, 0), none, none, none, none, none, some (1, 117, 0, 0), none, none, none, none, none, some (0, 8, 0, 0), none],
  [none, none, some (1, 144, 0, 0), none, none, none, none, none, some (1, 151, 0, 0), none, none, some (1, 124, 0, 0), none, none, none, some (2, 116, 0, 0)],
  [none, none, none, some (1, 143, 0, 0), none, none, none, some (1, 172, 0, 0), none, none, none, some (1, 150, 0, 0)]]
def jp_3 : List (List (Option JE)) := [[none, none, none, some (5, 0, 0, 0), none, none, none, none, none, none, none, some (0, 3, 0, 0), none, none, none, some (2, 2, 0, 0)],
  [none, none, none, some (2, 3, 0, 0), none, none, none, some (0, 3, 1, 0), none, none, some (0, 3, 2, 0), none, none, some (8, 0, 0, 1000000), none, some (8, 0, 0, 100000000)],
  [none, some (8, 0, 0, 1000000000), none, some (8, 0, 0, 10), none, some (2, 4, 0, 0), none, none, none, none, none, some (1, 95, 0, 0), none, none, some (2, 125, 0, 0)]]
def jp_4 : List (List (Option JE)) := [[none, none, none, some (5, 0, 0, 0), none, none, none, none, none, none, none, some (0, 4, 0, 0), none, none, none, some (0, 4, 1, 0)],
  [none, none, some (0, 4, 2, 0), none, none, none, some (10, 2, 0, 0), none, some (3, 5, 0, 0), none, none, some (0, 4, 4, 0), none, none, none, some (10, 8, 0, 0)],
  [none, some (3, 24, 0, 0), none, none, some (0, 4, 5, 0), none, none, none, some (0, 4, 6, 0), none, none, some (0, 4, 7, 0), none, none, some (0, 4, 8, 0), none],
  [none, some (0, 4, 3, 0), none, none, none, some (0, 4, 9, 0), none, none, none, some (1, 234, 0, 0), none, none, some (0, 4, 10, 0), none, none, some (0, 4, 11, 0)],
  [none, none, some (1, 235, 0, 0), none, none, none, some (1, 236, 0, 0), none, none, none, some (1, 237, 0, 0), none, none, none, some (1, 238, 0, 0), none],
  [none, some (1, 136, 0, 0), none, none, none, some (1, 164, 0, 0), none, none, some (2, 180, 0, 0), none, none, none, none, none, some (2, 4, 0, 0), none],
  [none, some (1, 171, 0, 0), none, none, none, some (1, 174, 0, 0), none, none, some (1, 175, 0, 0), none, none, none, some (0, 2, 8, 0), none, none, some (0, 2, 9, 0)],
  [none, none, some (0, 2, 10, 0), none, none, some (0, 4, 12, 0), none, none, some (6, 0, 0, 0), none, none, none, none, none, some (1, 239, 0, 0)]]
def jp_5 : List (List (Option JE)) := [[none, none, none, some (5, 0, 0, 0), none, none, none, none, none, none, none, some (0, 5, 0, 0), none, none, none, some (0, 5, 1, 0)],
  [none, none, some (0, 5, 2, 0), none, none, some (0, 5, 3, 0), none, none, some (0, 5, 5, 0), none, none, none, some (0, 5, 8, 0), none, none, some (0, 5, 11, 0)],
  [none, none, none, some (0, 5, 4, 0), none, none, some (1, 55, 0, 0), none, none, none, none, none, some (0, 5, 10, 0), none, none, some (0, 5, 6, 0)],
  [none, none, some (0, 5, 7, 0), none, none, some (0, 5, 9, 0), none, none, some (1, 38, 0, 0), none, none, some (1, 39, 0, 0), none, none, none, some (1, 50, 0, 0)],
  [none, none, none, some (0, 9, 1, 0), none, none, some (1, 56, 0, 0), none, none, none, some (1, 61, 0, 0), none, none, some (1, 51, 0, 0), none, none],
  [none, some (0, 9, 4, 0), none, none, some (0, 9, 5, 0), none, none, none, some (1, 57, 0, 0), none, none, none, some (0, 9, 6, 0), none, none, some (0, 9, 7, 0)],
  [none, none, some (0, 9, 9, 0), none, none, none, some (0, 9, 8, 0), none, none, some (1, 58, 0, 0), none, none, some (1, 59, 0, 0), none, none, some (1, 52, 0, 0)],
  [none, none, some (1, 53, 0, 0), none, none, some (1, 54, 0, 0), none, none, some (1, 60, 0, 0), none, none, none, some (1, 62, 0, 0), none, none, some (1, 63, 0, 0)],
  [none, none, some (1, 64, 0, 0), none, none, some (1, 65, 0, 0)]]
def jp_6 : List (List (Option JE)) := [[none, none, none, some (5, 0, 0, 0), none, none, none, none, none, none, none, some (10, 8, 0, 0), none, some (0, 6, 0, 0), none, none],
  [none, some (0, 6, 1, 0), none, none, none, some (3, 24, 0, 0), none, none, some (0, 8, 0, 0), none, none, none, some (0, 8, 1, 0), none, none, some (0, 8, 2, 0)]]
def jp_7 : List (List (Option JE)) := [[none, none, none, some (5, 0, 0, 0), none, none, none, none, none, some (0, 7, 0, 0), none, none, none, none, none, some (0, 7, 1, 0)],
  [none, none, none, none, none, some (10, 10, 0, 0), none, some (0, 7, 3, 0), none, none, none, some (0, 7, 4, 0), none, none, some (4, 22, 0, 0), some (0, 7, 5, 0)],
  [none, none, none, some (0, 7, 6, 0), none, none, some (0, 7, 7, 0), none, none, some (0, 7, 8, 0), none, none, none, some (0, 7, 9, 0), none, none],
  [some (0, 7, 10, 0), none, none, some (0, 7, 11, 0), none, none, none, some (0, 7, 13, 0), none, none, some (0, 7, 18, 0), none, none, none, some (0, 10, 0, 0), none],
  [none, none, some (2, 67, 0, 0), none, none, none, some (1, 225, 0, 0), none, none, none, some (0, 2, 4, 0), none, none, none, none, some (0, 2, 5, 0)],
  [none, none, some (0, 2, 6, 0), none, none, some (0, 2, 7, 0), none, none, some (0, 7, 2, 0), none, none, none, some (1, 164, 0, 0), none, none, some (0, 7, 14, 0)],
  [none, none, some (0, 7, 15, 0), none, none, some (7, 0, 0, 1000000), some (0, 5, 4, 0), none, none, some (1, 54, 0, 0), none, none, some (1, 165, 0, 0), none, none, none],
  [some (1, 167, 0, 0), none, none, some (1, 181, 0, 0), none, none, some (1, 182, 0, 0), none, none, some (1, 65, 0, 0), none, none, some (1, 187, 0, 0), none, none, some (1, 188, 0, 0)],
  [none, none, some (1, 136, 0, 0), none, none, none, some (0, 7, 17, 0), none, none, some (0, 7, 16, 0), none, none, some (1, 63, 0, 0), none, none, some (0, 2, 9, 0)],
  [none, none, some (0, 7, 19, 0), some (1, 166, 0, 0), none, none, none, none, none, some (1, 176, 0, 0), none, none, none, some (1, 183, 0, 0), none, none],
  [none, some (1, 185, 0, 0), none, none, some (1, 62, 0, 0), none, none, some (1, 177, 0, 0), none, none, none, some (0, 7, 12, 0), none, none, some (1, 168, 0, 0), none],
  [none, some (1, 169, 0, 0), none, none, none, some (1, 157, 0, 0), none, none, none, some (0, 2, 10, 0), none, none, some (1, 178, 0, 0), none, none, none],
  [some (1, 179, 0, 0), none, none, some (0, 2, 2, 0), none, none, none, some (1, 170, 0, 0), none, none, none, none, none, some (1, 189, 0, 0), none, none],
  [some (1, 190, 0, 0), none, none, some (0, 10, 2, 0), none, none, some (2, 191, 0, 0), none, none, none, some (1, 193, 0, 0), none, none, none, some (0, 10, 1, 0), none],
  [none, some (1, 194, 0, 0), none, none, none, some (1, 173, 0, 0), none, none, none, some (2, 192, 0, 0), none, none, none, none, some (1, 141, 0, 0), none],
  [none, none, none, some (0, 8, 1, 0), none, none, some (1, 143, 0, 0), none, none, none, some (1, 172, 0, 0), none, none, none, some (1, 171, 0, 0), none],
  [none, none, some (1, 174, 0, 0), none, none, some (1, 175, 0, 0)]]
def jp_8 : List (List (Option JE)) := [[none, none, none, some (5, 0, 0, 0), none, none, none, none, none, some (0, 8, 0, 0), none, none, none, none, none, some (0, 8, 1, 0)],
  [none, none, none, some (0, 8, 2, 0), none, none, some (1, 25, 0, 0), none, none, none, none, none, some (0, 8, 3, 0), none, none, none],
  [some (0, 8, 4, 0), none, none, some (2, 180, 0, 0), none, none, none, none, none, some (2, 4, 0, 0), none, none, some (2, 142, 0, 0), none, none, some (2, 116, 0, 0)],
  [none, none, some (7, 0, 0, 1000000), some (0, 8, 5, 0), none, none, some (0, 8, 6, 0), none, none, some (0, 8, 7, 0), none, none, some (1, 126, 0, 0), none, none, none],
  [some (1, 117, 0, 0), none, none, some (2, 125, 0, 0), none, none, some (1, 128, 0, 0), none, none, some (2, 129, 0, 0), none, none, some (2, 130, 0, 0), none, none, some (11, 0, 0, 0)],
  [none, none, some (1, 251, 0, 0), none, none, none, some (1, 252, 0, 0), none, none, some (1, 250, 0, 0)]]
def jp_9 : List (List (Option JE)) := [[none, none, none, some (5, 0, 0, 0), none, none, none, none, none, none, none, some (0, 9, 0, 0), none, none, none, some (0, 9, 2, 0)],
  [none, none, none, some (9, 0, 0, 0), none, some (2, 7, 0, 0), none, none, none, some (9, 1, 0, 0), none, some (9, 2, 0, 0), none, some (9, 3, 0, 0), none, some (9, 4, 0, 0)],
  [none, some (9, 5, 0, 0), none, some (9, 6, 0, 0), none, some (9, 7, 0, 0), none, some (9, 8, 0, 0), none, some (9, 9, 0, 0), none, some (9, 10, 0, 0), none, some (1, 8, 0, 0), none, none],
  [none, none, none, some (1, 10, 0, 0), none, none, none, some (2, 19, 0, 0), none, none, none, some (8, 0, 0, 27), none, some (0, 9, 1, 0), none, none],
  [none, some (0, 9, 3, 0), none, none, some (1, 40, 0, 0), none, none, none, some (2, 41, 0, 0), none, none, none, some (0, 9, 4, 0), none, none, some (2, 42, 0, 0)],
  [none, none, some (1, 43, 0, 0), none, none, some (2, 44, 0, 0), none, none, some (1, 45, 0, 0), none, none, some (1, 49, 0, 0), none, none, some (0, 9, 5, 0), none],
  [none, none, some (1, 46, 0, 0), none, none, some (0, 9, 9, 0), none, none, none, some (1, 47, 0, 0), none, none, none, some (1, 48, 0, 0), none, none],
  [none, some (0, 9, 8, 0), none, none, some (0, 9, 6, 0), none, none, some (0, 9, 7, 0)]]
def jp_10 : List (List (Option JE)) := [[none, none, none, some (5, 0, 0, 0), none, none, none, none, none, some (0, 10, 0, 0), none, none, none, none, none, some (0, 10, 1, 0)],
  [none, none, none, some (0, 10, 2, 0), none, none, some (0, 10, 3, 0), none, none, some (0, 10, 4, 0), none, none, some (0, 10, 5, 0), none, none, some (0, 10, 6, 0)],
  [none, none, some (1, 128, 0, 0), none, none, none, none, none, some (2, 130, 0, 0), none, none, some (2, 129, 0, 0), none, none, some (2, 180, 0, 0), none],
  [none, none, none, none, some (2, 4, 0, 0), none, none, some (1, 195, 0, 0), none, none, none, none, some (2, 184, 0, 0), none, none, none],
  [some (1, 186, 0, 0)]]
def jp_11 : List (List (Option JE)) := [[none, some (5, 0, 0, 0), none, none, none, none, none, some (10, 3, 0, 0), none, some (3, 1, 0, 0), some (0, 11, 0, 0), none, none, none, none, none],
  [some (10, 6, 0, 0), none, some (0, 11, 1, 0), none, none, none, some (10, 2, 0, 0), none, some (3, 5, 0, 0), none, none, some (0, 11, 3, 0), none, none, none, some (10, 9, 0, 0)],
  [none, some (3, 6, 0, 0), some (0, 11, 4, 0), none, none, none, some (10, 5, 0, 0), none, some (3, 20, 0, 0), some (0, 11, 5, 0), none, none, none, some (0, 11, 6, 0), none, none],
  [some (0, 11, 7, 0), none, none, none, some (10, 7, 0, 0), none, some (3, 21, 0, 0), none, none, some (0, 11, 8, 0), none, none, none, some (10, 4, 0, 0), none, some (3, 23, 0, 0)],
  [none, none, some (0, 11, 9, 0), none, none, none, some (10, 1, 0, 0), none, some (3, 26, 0, 0), some (0, 11, 10, 0), none, none, none, some (10, 0, 0, 0), none, some (3, 27, 0, 0)],
  [some (0, 11, 11, 0), none, none, none, some (1, 30, 0, 0), none, none, none, some (1, 31, 0, 0), none, none, none, some (0, 9, 1, 0), none, none, some (1, 37, 0, 0)],
  [none, none, none, some (0, 5, 11, 0), some (0, 5, 10, 0), none, none, some (1, 66, 0, 0), none, none, some (1, 95, 0, 0), none, none, none, some (0, 11, 2, 0), none],
  [none, some (3, 99, 0, 0), some (1, 102, 0, 0), none, none, none, some (1, 103, 0, 0), none, none, none, some (1, 107, 0, 0), none, none, none, some (1, 109, 0, 0), none],
  [none, none, none, none, some (0, 2, 0, 0), none, none, some (0, 2, 1, 0), none, none, some (1, 115, 0, 0), none, none, some (2, 116, 0, 0), none, none],
  [none, some (1, 117, 0, 0), none, none, some (1, 124, 0, 0), none, none, some (1, 127, 0, 0), none, none, some (1, 135, 0, 0), none, none, none, some (1, 139, 0, 0), none],
  [none, none, some (2, 140, 0, 0), none, none, some (1, 141, 0, 0), none, none, some (1, 143, 0, 0), none, none, none, some (0, 2, 5, 0), none, none, some (0, 8, 0, 0)],
  [none, none, none, some (1, 150, 0, 0), none, none, some (0, 2, 4, 0), none, none, some (0, 2, 2, 0), none, none, none, some (1, 157, 0, 0), none, none],
  [none, some (0, 2, 3, 0), none, none, some (0, 2, 6, 0), none, none, some (0, 2, 7, 0), none, none, some (1, 163, 0, 0), none, none, none, some (0, 2, 8, 0), none],
  [none, some (0, 7, 17, 0), none, none, some (0, 7, 18, 0), none, none, some (0, 7, 19, 0), none, none, some (0, 5, 6, 0), none, none, some (1, 224, 0, 0), none, none],
  [some (1, 228, 0, 0), none, none, none, some (1, 231, 0, 0), none, none, none, some (0, 4, 3, 0), none, none, some (1, 234, 0, 0), none, none, some (0, 4, 10, 0), none],
  [none, some (0, 4, 11, 0), none, none, some (0, 4, 12, 0), none, none, some (1, 246, 0, 0), none, none, some (2, 249, 0, 0), none, none, some (0, 8, 1, 0), none, none],
  [some (1, 250, 0, 0), none, none, none, some (1, 258, 0, 0), none, none, some (1, 261, 0, 0), none, none, none, some (1, 195, 0, 0), none, none, some (1, 264, 0, 0), none],
  [none, some (2, 142, 0, 0), none, none, none, none, some (1, 265, 0, 0), none, none, some (2, 130, 0, 0), none, none, some (2, 192, 0, 0), none, none, some (2, 129, 0, 0)],
  [none, none, some (2, 268, 0, 0), none, none, some (1, 252, 0, 0), none, none, some (2, 272, 0, 0), none, none, some (1, 274, 0, 0), none, none, none, some (1, 277, 0, 0)],
  [none, none, some (1, 280, 0, 0), none, none, some (1, 285, 0, 0), none, none, some (1, 293, 0, 0), none, none, some (1, 294, 0, 0), none, none, some (1, 297, 0, 0), none],
  [none, some (1, 300, 0, 0), none, none, some (0, 0, 5, 0), none, none, some (1, 108, 0, 0), none, some (0, 6, 1, 0), none, none, some (1, 281, 0, 0)]]
def jp_12 : List (List (Option JE)) := [[none, some (5, 0, 0, 0), none, none, none, none, none, some (0, 12, 0, 0), none, none, none, none, none, some (0, 12, 3, 0), none, none],
  [none, some (0, 12, 5, 0), none, none, none, some (0, 12, 6, 0), none, none, none, some (0, 12, 7, 0), none, none, some (0, 12, 8, 0), none, none, some (0, 12, 9, 0)],
  [none, none, some (0, 12, 10, 0), none, none, some (0, 12, 11, 0), none, none, some (0, 12, 12, 0), none, none, some (0, 12, 13, 0), none, none, some (0, 12, 18, 0), none],
  [none, some (0, 12, 25, 0), none, none, some (0, 12, 26, 0), none, none, some (0, 12, 27, 0), none, none, some (0, 12, 28, 0), none, none, some (0, 12, 29, 0), none, none],
  [some (0, 12, 30, 0), none, none, some (0, 12, 31, 0), none, none, some (0, 12, 32, 0), none, none, some (0, 12, 33, 0), none, none, some (0, 12, 34, 0), none, none, some (0, 12, 35, 0)],
  [none, none, some (0, 12, 36, 0), none, none, some (0, 12, 37, 0), none, none, some (0, 12, 38, 0), none, none, none, some (0, 12, 39, 0), none, none, some (0, 12, 41, 0)],
  [none, none, some (0, 12, 42, 0), none, none, some (0, 12, 43, 0), none, none, some (0, 12, 44, 0), none, none, some (0, 12, 45, 0), none, none, some (0, 12, 46, 0), none],
  [none, some (0, 12, 47, 0), none, none, some (0, 12, 55, 0), none, none, some (0, 12, 56, 0), none, none, some (0, 12, 59, 0), none, none, some (0, 12, 60, 0), none, none],
  [some (0, 12, 61, 0), none, none, some (0, 12, 62, 0), none, none, some (0, 12, 63, 0), none, none, some (0, 12, 70, 0), none, none, some (0, 12, 71, 0), none, none, some (0, 12, 72, 0)],
  [none, none, some (0, 12, 73, 0), none, none, some (0, 12, 75, 0), none, none, some (0, 12, 76, 0), none, none, some (0, 12, 77, 0), none, none, some (0, 12, 78, 0), none],
  [none, some (0, 12, 79, 0), none, none, some (0, 12, 80, 0), none, none, some (0, 12, 81, 0), none, none, some (0, 12, 82, 0), none, none, some (8, 0, 0, 1000000), none, some (8, 0, 0, 100000000)],
  [none, some (8, 0, 0, 1000000000), none, some (8, 0, 0, 10), none, some (0, 12, 1, 0), none, none, some (1, 33, 0, 0), none, none, none, some (2, 97, 0, 0), none, none, none],
  [some (0, 12, 4, 0), none, none, some (1, 105, 0, 0), none, none, some (1, 111, 0, 0), none, none, none, some (1, 121, 0, 0), none, none, none, some (2, 122, 0, 0), none],
  [none, none, some (1, 119, 0, 0), none, none, none, some (1, 120, 0, 0), none, none, some (7, 0, 0, 1000000), some (2, 133, 0, 0), none, none, none, some (1, 132, 0, 0), none],
  [none, none, some (0, 12, 14, 0), none, none, some (0, 12, 15, 0), none, none, some (0, 12, 16, 0), none, none, some (0, 12, 17, 0), none, none, some (2, 146, 0, 0), none],
  [none, some (2, 147, 0, 0), none, none, some (1, 148, 0, 0), none, none, none, some (1, 153, 0, 0), none, none, some (1, 159, 0, 0), none, none, some (1, 71, 0, 0), none],
  [none, some (8, 0, 0, 7103860), none, some (8, 0, 0, 125780002955636), none, some (8, 0, 0, 26982), none, some (8, 0, 0, 1701606245), none, some (8, 0, 0, 6647396), none, some (8, 0, 0, 126948267617401), none, some (8, 0, 0, 126931137819237), none, some (8, 0, 0, 1668637285)],
  [none, some (8, 0, 0, 1919905652), none, some (8, 0, 0, 499967947364), none, some (8, 0, 0, 1870030194), none, some (0, 12, 20, 0), none, none, some (1, 70, 0, 0), none, none, some (0, 12, 23, 0), none, none],
  [none, some (2, 73, 0, 0), none, none, none, some (0, 12, 22, 0), none, none, some (0, 12, 19, 0), none, none, some (0, 12, 21, 0), none, none, some (1, 74, 0, 0), none],
  [none, some (1, 72, 0, 0), none, none, some (1, 75, 0, 0), none, none, some (0, 12, 2, 0), none, none, some (0, 12, 24, 0), none, none, some (1, 77, 0, 0), none, none],
  [some (1, 69, 0, 0), none, none, some (1, 83, 0, 0), none, none, some (1, 79, 0, 0), none, none, none, some (1, 85, 0, 0), none, none, some (1, 86, 0, 0), none, none],
  [none, some (1, 80, 0, 0), none, none, none, some (1, 81, 0, 0), none, none, some (1, 82, 0, 0), none, none, some (1, 84, 0, 0), none, none, some (0, 12, 40, 0), none],
  [none, some (1, 89, 0, 0), none, none, some (1, 78, 0, 0), none, none, some (1, 87, 0, 0), none, none, some (1, 88, 0, 0), none, none, some (1, 90, 0, 0), none, none],
  [some (1, 91, 0, 0), none, none, some (1, 76, 0, 0), none, none, some (0, 12, 52, 0), none, none, some (0, 12, 48, 0), none, none, some (1, 199, 0, 0), none, none, some (1, 207, 0, 0)],
  [none, none, some (1, 206, 0, 0), none, none, some (1, 205, 0, 0), none, none, some (0, 12, 50, 0), none, none, some (1, 208, 0, 0), none, none, some (1, 198, 0, 0), none],
  [none, some (1, 202, 0, 0), none, none, some (1, 203, 0, 0), none, none, none, some (1, 204, 0, 0), none, none, some (1, 209, 0, 0), none, none, some (2, 210, 0, 0), none],
  [none, some (0, 12, 49, 0), none, none, some (0, 12, 57, 0), none, none, some (1, 212, 0, 0), none, none, some (1, 201, 0, 0), none, none, some (1, 211, 0, 0), none, none],
  [some (1, 213, 0, 0), none, none, none, some (1, 215, 0, 0), none, none, some (1, 216, 0, 0), none, none, some (0, 12, 53, 0), none, none, some (1, 200, 0, 0), none, none],
  [some (1, 214, 0, 0), none, none, some (1, 197, 0, 0), none, none, some (0, 12, 54, 0), none, none, some (0, 12, 51, 0), none, none, some (0, 12, 58, 0), none, none, some (0, 12, 67, 0)],
  [none, none, some (0, 12, 68, 0), none, none, some (0, 12, 69, 0), none, none, some (1, 244, 0, 0), none, none, some (1, 242, 0, 0), none, none, some (0, 12, 64, 0), none],
  [none, some (0, 12, 65, 0), none, none, some (0, 12, 66, 0), none, none, some (1, 243, 0, 0), none, none, some (1, 241, 0, 0), none, none, some (2, 255, 0, 0), none, none],
  [some (1, 256, 0, 0), none, none, none, some (1, 254, 0, 0), none, none, none, some (0, 12, 74, 0), none, none, some (1, 291, 0, 0), none, none, none, some (1, 290, 0, 0)],
  [none, none, some (0, 12, 83, 0), none, none, some (0, 12, 84, 0), none, none, some (1, 287, 0, 0), none, none, some (1, 288, 0, 0), none, none, some (1, 289, 0, 0)]]
def jp_13 : List (List (Option JE)) := [[none, none, none, none, none, none, none, none, none, some (12, 0, 0, 0), none, none, none, none, none, some (12, 1, 0, 0)],
  [none, none, none, none, none, none, none, none, none, none, none, none, none, none, none, none],
  [none, none, none, none, none, none, some (11, 1, 0, 0), none, none, none, none, none, none, none, none, none],
  [none, none, none, none, none, none, none, none, none, none, none, none, none, none, none, none],
  [none, none, none, none, none, none, none, none, none, none, none, none, none, none, none, none],
  [none, none, none, none, none, none, none, none, none, none, none, none, none, none, none, none],
  [none, none, none, none, none, none, none, none, none, none, none, none, none, none, none, none],
  [none, none, none, none, none, none, none, none, none, none, none, none, none, none, none, none],
  [none, none, none, none, none, none, none, none, none, none, none, none, none, none, none, none],
  [none, none, none, none, none, none, none, none, none, none, none, none, none, none, none, none],
  [none, none, none, none, none, none, none, none, none, none, none, none, none, none, none, none],
  [none, none, none, none, none, none, none, none, none, none, none, none, none, none, none, none],
  [none, none, none, none, none, none, none, none, none, none, none, none, none, none, none, none],
  [none, none, none, none, none, none, none, none, none, none, none, none, none, none, none, none],
  [none, none, none, none, none, none, none, none, none, none, none, none, none, none, none, none],
  [none, none, none, none, none, none, none, none, none, none, none, none, none, none, none, none],
  [none, none, none, none, none, none, none, none, none, none, none, none, none, none, none, none],
  [none, none, none, none, none, none, none, none, none, none, none, none, none, none, none, none],
  [none, none, none, none, none, none, none, none, none, none, none, none, none, none, none, none],
  [none, none, none, none, none, none, none, none, none, none, none, none, none, none, none, none],
  [none, none, none, none, none, none, none, none, none, none, none, none, none, none, none, some (1, 9, 0, 0)],
  [none, none, none, none, none, none, none, none, none, none, none, none, none, none, none, none],
  [none, none, none, none, none, none, none, none, none, none, none, none, none, none, none, none],
  [none, none, none, none, none, none, none, none, none, none, none, none, none, none, none, none],
  [none, none, none, none, none, none, none, none, none, none, none, none, none, none, none, none],
  [none, none, none, none, none, none, none, none, none, none, none, none, none, none, none, none],
  [none, none, none, none, none, none, none, none, none, none, none, none, none, none, none, none],
  [none, none, none, none, none, none, none, none, none, none, none, none, none, none, none, none],
  [none, none, none, none, none, none, none, none, none, none, none, none, none, none, none, none],
  [none, none, none, none, none, none, none, none, none, none, none, none, none, none, none, none],
  [none, none, none, none, none, none, none, none, none, none, none, none, some (1, 11, 0, 0), none, none, some (2, 12, 0, 0)],
  [none, none, some (2, 15, 0, 0), none, none, none, none, none, none, none, none, none, none, none, none, none],
  [none, none, none, none, none, none, none, none, none, none, none, none, none, none, none, none],
  [none, none, none, none, none, none, none, none, none, none, none, none, none, none, none, none],
  [none, none, none, none, none, none, none, none, none, none, none, none, none, none, none, none],
  [none, none, none, none, none, none, none, none, none, none, none, none, none, none, none, none],
  [none, none, none, none, none, none, none, none, none, none, none, none, none, none, none, none],
  [none, none, none, none, none, none, none, none, none, none, none, none, none, none, none, none],
  [none, none, none, none, none, none, none, none, none, none, none, none, none, none, none, none],
  [none, none, none, none, none, none, none, none, none, none, none, none, none, none, none, none],
  [none, none, none, none, none, none, none, none, none, none, none, none, none, none, none, none],
  [none, none, none, none, none, none, none, none, none, none, none, none, none, none, none, none],
  [none, none, none, none, none, none, none, none, none, none, none, none, none, none, none, none],
  [none, none, none, none, none, none, none, none, none, none, none, none, none, none, none, none],
  [none, none, none, none, none, none, none, none, none, none, none, none, none, none, none, none],
  [none, none, none, none, none, none, none, none, none, none, none, none, none, none, none, none],
  [none, none, none, none, none, none, none, none, none, none, none, none, none, none, none, none],
  [none, none, none, none, none, none, none, none, none, none, none, none, none, none, none, none],
  [none, none, none, none, none, none, none, none, none, none, none, none, none, none, none, none],
  [none, none, none, none, none, none, none, none, none, none, none, none, none, none, none, none],
  [none, none, none, none, none, none, none, none, none, none, none, none, none, none, none, none],
  [none, none, none, none, none, none, none, none, none, none, none, none, none, none, none, none],
  [none, none, none, none, none, none, none, none, none, none, none, none, none, none, none, none],
  [none, none, none, none, none, none, none, none, none, none, none, none, none, none, none, none],
  [none, none, none, none, none, none, none, none, none, none, none, none, none, none, none, none],
  [none, none, none, none, none, none, none, none, none, none, none, none, none, none, none, none],
  [none, none, none, none, none, none, none, none, none, none, none, none, none, none, none, none],
  [none, none, none, none, none, none, none, none, none, none, none, none, none, none, none, none],
  [none, none, none, none, none, none, none, none, none, none, none, none, none, none, none, none],
  [none, none, none, none, none, none, none, none, none, none, none, none, none, none, none, none],
  [none, none, none, none, none, none, none, none, none, none, none, none, none, none, none, none],
  [none, none, none, none, none, none, none, none, none, none, none, none, none, none, none, none],
  [none, none, none, none, none, none, none, none, none, none, none, none, none, none, none, none],
  [none, none, none, none, none, none, none, none, none, none, none, none, none, none, none, none],
  [none, none, none, none, none, none, none, none, none, none, none, none, none, none, none, none],
  [none, none, none, none, none, none, none, none, none, none, none, none, none, some (11, 2, 0, 0), none, none],
  [none, none, none, some (2, 14, 0, 0)]]
def jp_14 : List (List (Option JE)) := [[none, none, none, none, none, none, none, none, none, some (2, 13, 0, 0)]]
def jp_15 : List (List (Option JE)) := [[none, none, none, none, none, none, none, none, none, none, none, none, none, none, none, none],
  [none, none, none, none, none, none, none, none, none, none, none, none, none, none, none, none],
  [none, none, none, none, none, none, none, none, none, none, none, none, none, none, none, none],
  [some (2, 17, 0, 0), none, none, none, none, none, none, none, none, none, none, none, none, none, none, none],
  [none, none, none, some (2, 16, 0, 0), none, none, none, some (2, 18, 0, 0), none, none, none, none, none, none, none, none],
  [none, none, none, none, none, none, none, none, none, none, none, none, none, none, none, none],
  [none, none, none, none, none, none, none, none, none, none, none, none, none, none, none, none],
  [none, none, none, none, none, none, none, none, none, none, none, none, none, none, none, none],
  [none, none, none, none, none, none, none, none, none, none, none, none, none, none, none, none],
  [none, none, none, none, none, none, none, none, none, none, none, none, none, none, none, none],
  [none, none, none, none, none, none, none, none, none, none, none, none, none, none, none, none],
  [none, none, none, none, none, none, none, none, none, none, none, none, none, none, none, none],
  [none, none, none, none, none, none, none, none, none, none, none, none, none, none, none, none],
  [none, none, none, none, none, none, none, none, none, none, none, none, none, none, none, none],
  [none, none, none, none, none, none, none, none, none, none, none, none, none, none, none, none],
  [none, none, none, none, none, none, none, none, none, none, none, none, none, none, none, none],
  [none, none, none, none, none, none, none, none, none, none, none, none, none, none, none, none],
  [none, none, none, none, none, none, none, none, none, none, none, none, none, none, none, none],
  [none, none, none, none, none, none, none, none, none, none, none, none, none, none, none, none],
  [none, none, none, none, none, none, none, none, none, none, none, none, none, none, none, none],
  [none, none, none, none, none, none, none, none, none, none, none, none, none, none, none, none],
  [none, none, none, none, none, none, none, none, none, none, none, none, none, none, none, none],
  [none, none, none, none, none, none, none, none, none, none, none, none, none, none, none, none],
  [none, none, none, none, none, none, none, none, none, none, none, none, none, none, none, none],
  [none, none, none, none, none, none, none, none, none, none, none, none, none, none, none, none],
  [none, none, none, none, none, none, none, none, none, none, none, none, none, none, some (2, 13, 0, 0)]]
def jp_19 : List (List (Option JE)) := [[none, none, none, none, none, none, none, some (10, 11, 0, 0), none, some (3, 0, 0, 0), some (10, 12, 0, 0), none, some (3, 28, 0, 0), some (1, 29, 0, 0), none, none],
  [none, some (1, 32, 0, 0), some (1, 34, 0, 0), none, none, none, some (1, 35, 0, 0), some (1, 36, 0, 0), none, none, none, some (1, 68, 0, 0), some (1, 92, 0, 0), none, none, some (1, 93, 0, 0)],
  [some (1, 94, 0, 0), none, none, some (1, 96, 0, 0), some (1, 98, 0, 0), none, none, some (1, 100, 0, 0), some (1, 101, 0, 0), none, none, none, some (1, 104, 0, 0), some (1, 106, 0, 0), none, none],
  [none, some (1, 110, 0, 0), some (1, 112, 0, 0), none, none, none, some (1, 113, 0, 0), some (1, 114, 0, 0), none, none, none, some (1, 118, 0, 0), some (1, 123, 0, 0), none, none, some (1, 131, 0, 0)],
  [some (1, 134, 0, 0), none, none, none, some (1, 137, 0, 0), some (1, 138, 0, 0), none, none, none, some (1, 145, 0, 0), some (1, 149, 0, 0), none, none, some (1, 152, 0, 0), some (1, 154, 0, 0), none],
  [none, none, some (1, 155, 0, 0), some (1, 156, 0, 0), none, none, none, some (1, 158, 0, 0), some (1, 160, 0, 0), none, none, some (1, 161, 0, 0), some (1, 162, 0, 0), none, none, some (1, 196, 0, 0)],
  [some (1, 217, 0, 0), none, none, some (1, 218, 0, 0), some (1, 219, 0, 0), none, none, some (1, 220, 0, 0), some (1, 221, 0, 0), none, none, some (1, 222, 0, 0), some (1, 223, 0, 0), none, none, some (1, 226, 0, 0)],
  [some (1, 227, 0, 0), none, none, none, some (1, 229, 0, 0), some (1, 230, 0, 0), none, none, some (1, 232, 0, 0), some (1, 233, 0, 0), none, none, some (1, 240, 0, 0), some (1, 245, 0, 0), none, none],
  [some (1, 247, 0, 0), some (1, 248, 0, 0), none, none, some (1, 253, 0, 0), some (1, 257, 0, 0), none, none, some (1, 259, 0, 0), some (1, 260, 0, 0), none, none, some (1, 262, 0, 0), some (1, 263, 0, 0), none, none],
  [some (1, 266, 0, 0), some (1, 267, 0, 0), none, none, some (1, 270, 0, 0), some (1, 271, 0, 0), none, none, none, some (1, 275, 0, 0), some (1, 276, 0, 0), none, none, some (1, 278, 0, 0), some (1, 279, 0, 0), none],
  [none, some (1, 286, 0, 0), some (1, 292, 0, 0), none, none, some (1, 295, 0, 0), some (1, 296, 0, 0), none, none, some (1, 298, 0, 0), some (1, 299, 0, 0), none, none, some (1, 301, 0, 0), some (1, 302, 0, 0), none],
  [none, some (1, 303, 0, 0)]]
def jcpT : Nat → List (List (Option JE)) := fun k => match k with
  | 0 => jp_0
  | 1 => jp_1
  | 2 => jp_2
  | 3 => jp_3
  | 4 => jp_4
  | 5 => jp_5
  | 6 => jp_6
  | 7 => jp_7
  | 8 => jp_8
  | 9 => jp_9
  | 10 => jp_10
  | 11 => jp_11
  | 12 => jp_12
  | 13 => jp_13
  | 14 => jp_14
  | 15 => jp_15
  | 19 => jp_19
  | _ => []
def jcp (own idx : Nat) : Option JE := jtw (jcpT own) idx
def jMU : List (List (Option JM)) := [[some jm_X11_init, some jm_X3_init, some jm_X3_logarithm, some jm_X3_folded, some jm_J9_max, some jm_X2_init, some jm_X9_init, some jm_X9_codeOf, some jm_J0_length_8abf5, some jm_J0_coder_7d493, some jm_J0_charAt_5068e, some jm_J0_isLatin1_aae02, some jm_J1_charAt_3b067, some jm_J0_checkIndex_df160, some jm_J3_checkIndex_8e157, some jm_J2_charAt_3b067],
  [some jm_J2_checkIndex_2214a, some jm_J2_length_9d52b, some jm_J2_getChar_3b067, some jm_X9_withLetter, some jm_X5_init, some jm_X7_init, some jm_X10_init, some jm_X4_init, some jm_X8_init, some jm_X3_placesFor, some jm_X1_init, some jm_X0_init, some jm_X12_init, some jm_X11_feed, some jm_X9_hasRoomFor, some jm_X9_append],
  [some jm_X12_feed, some jm_X12_byteRow, some jm_X11_back, some jm_X12_back, some jm_X11_read, some jm_X5_readFrom, some jm_X9_rewind, some jm_X9_nextKind, some jm_X9_byteAt, some jm_X9_isBlank, some jm_X9_isLetter, some jm_X9_wordKind, some jm_X9_isDigit, some jm_X9_numberKind, some jm_X9_digitsEnd, some jm_X9_readWhole],
  [some jm_X9_readDigits, some jm_X9_signKind, some jm_X5_takeToken, some jm_X5_follower, some jm_X5_stepFollower, some jm_X5_openToken, some jm_X5_kindOf, some jm_X5_hasToken, some jm_X5_noteFault, some jm_X5_nameNumber, some jm_X5_setSecond, some jm_X5_joinTokens, some jm_X5_setOpen, some jm_X5_checkAtoms, some jm_X5_firstOf, some jm_X5_startOf],
  [some jm_X5_isWrong, some jm_X5_secondOf, some jm_X7_forgetValues, some jm_X7_untell, some jm_X12_read, some jm_X12_token, some jm_X12_isLetter, some jm_X12_at, some jm_X12_wordToken, some jm_X12_keyword, some jm_X12_isDigit, some jm_X12_numToken, some jm_X12_text, some jm_X12_stop, some jm_X12_letTold, some jm_X12_pass],
  [some jm_X12_named, some jm_X12_newStep, some jm_X12_signs, some jm_X12_isSign, some jm_X12_atomTold, some jm_X12_numbered, some jm_X12_fault, some jm_X12_repeatTold, some jm_X12_ifTold, some jm_X12_isWord, some jm_X12_elseTold, some jm_X12_endTold, some jm_X11_place, some jm_X12_place, some jm_X11_units, some jm_X3_unitsOf],
  [some jm_X12_units, some jm_X12_isDigits, some jm_X11_rule, some jm_X6_init, some jm_X12_rule, some jm_X11_scale, some jm_X11_ruleAt, some jm_X6_addScale, some jm_X12_scale, some jm_X12_isRule, some jm_X11_flaw, some jm_X11_scaleAt, some jm_X6_scaleAt, some jm_X8_setFlaw, some jm_X12_flaw, some jm_X12_isScale],
  [some jm_X11_steps, some jm_X12_steps, some jm_X11_cut, some jm_X8_hasMark, some jm_X8_markFor, some jm_X8_cutPlace, some jm_X12_cut, some jm_X12_isMark, some jm_X12_cutOf, some jm_X12_trueOf, some jm_X12_stretchOf, some jm_X11_seen, some jm_X8_lookAt, some jm_J9_abs, some jm_X8_firstFrom, some jm_X8_sighted],
  [some jm_X8_sightedMark, some jm_X8_decadeOf, some jm_X8_digitsOf, some jm_X12_seen, some jm_X12_see, some jm_X12_apart, some jm_X11_take, some jm_X2_pickUp, some jm_X2_setAll, some jm_X12_take, some jm_X11_hair, some jm_X2_scaleInHand, some jm_X11_isNumber, some jm_X8_markOfNumber, some jm_J9_floorMod_7cf53, some jm_X2_bringHair],
  [some jm_X2_putHair, some jm_X12_hair, some jm_X12_isNumber, some jm_X12_decade, some jm_X12_hairTo, some jm_X11_slide, some jm_X2_bringSlide, some jm_X2_putSlide, some jm_X12_slide, some jm_X12_slideTo, some jm_X11_index, some jm_X12_index, some jm_X11_look, some jm_X2_shows, some jm_X12_look, some jm_X12_looks],
  [some jm_X11_state, some jm_X12_state, some jm_X11_run, some jm_X7_perform, some jm_X2_startCounting, some jm_X7_beginLet, some jm_X7_countStep, some jm_X7_endLet, some jm_X7_calculate, some jm_X7_onBody, some jm_X6_firstLike, some jm_X2_startWith, some jm_X2_judge, some jm_X7_onSlide, some jm_X2_divide, some jm_X2_multiply],
  [some jm_X7_atomAt, some jm_X10_setAlike, some jm_X10_setSighted, some jm_X10_isBeyond, some jm_J9_min, some jm_X7_beginTurns, some jm_X7_choose, some jm_X10_isLess, some jm_X10_isBelow, some jm_X10_isSame, some jm_X10_isSure, some jm_X7_endTurn, some jm_X7_raise, some jm_X7_scaleToSet, some jm_X7_scaleToRead, some jm_X7_placeToRead],
  [some jm_J9_floorDiv_7cf53, some jm_X7_lookAcross, some jm_X10_looseBy, some jm_X3_reachOf, some jm_X12_run, some jm_X12_goes, some jm_X12_counts, some jm_X12_breaks, some jm_X12_lets, some jm_X12_power, some jm_X12_asked, some jm_X12_find, some jm_X12_hairBy, some jm_X12_loose, some jm_X12_reachAt, some jm_X12_reach],
  [some jm_X12_isHeld, some jm_X12_lookBy, some jm_X12_floored, some jm_X12_overBy, some jm_X12_slideBy, some jm_X12_timesBy, some jm_X12_holds, some jm_X12_isLess, some jm_X12_alike, some jm_X11_broke, some jm_X12_broke, some jm_X11_where, some jm_X12_where, some jm_X11_moves, some jm_X12_moves, some jm_X11_value],
  [some jm_X7_keptPart, some jm_X10_partAt, some jm_X12_value, some jm_X11_factor, some jm_X4_addFactor, some jm_X12_factor, some jm_X11_clear, some jm_X4_removeAll, some jm_X12_clear, some jm_X11_fewest, some jm_X4_settle, some jm_X4_hasTimes, some jm_X4_isOver, some jm_X4_tryOrder, some jm_X4_toNextTrial, some jm_X4_swapTrials],
  [some jm_X12_fewest, some jm_X12_ordered, some jm_X12_tries, some jm_X12_turns, some jm_X12_swap, some jm_X11_order, some jm_X4_factorInOrder, some jm_X12_order, some jm_X11_step, some jm_X11_isGap, some jm_X8_partStep, some jm_X8_isWideEnough, some jm_X8_truePlace, some jm_X12_step, some jm_X12_divided, some jm_X12_stepOf],
  [some jm_X12_isFar, some jm_X11_marks, some jm_X8_dividedMarks, some jm_X12_marks, some jm_X11_chart, some jm_X1_draw, some jm_X12_chart, some jm_X11_thread, some jm_X1_middleReach, some jm_X3_nearestMark, some jm_X12_thread, some jm_X11_design, some jm_X1_firstFor, some jm_X1_middleFor, some jm_X12_design, some jm_X11_shown],
  [some jm_X0_slot, some jm_X8_stretchOf, some jm_X0_addShown, some jm_X12_shown, some jm_X11_strike, some jm_X0_addStrike, some jm_X12_strike, some jm_X11_guesses, some jm_X11_weighed, some jm_X0_weigh, some jm_X0_noteKnown, some jm_X0_weighFlaws, some jm_X0_flawAt, some jm_X0_fitting, some jm_X12_guesses, some jm_X12_isKnown],
  [some jm_X12_keep, some jm_X12_fitting, some jm_X12_fits, some jm_X12_guessedAt, some jm_X11_guess, some jm_X0_fittingAt, some jm_X0_guessPart, some jm_X12_guess, some jm_X11_sure, some jm_X0_blamedScale, some jm_X12_sure, some jm_X11_odd, some jm_X0_oddOne, some jm_X12_odd, some jm_X11_count, some jm_X12_count]]
def jM (i : Nat) : Option JM := jtw jMU i
theorem jinl {a : Cond} {l r : List Cond} (h : a ∈ l) : a ∈ l ++ r := List.mem_append_left _ h
theorem jinr {a : Cond} {l r : List Cond} (h : a ∈ r) : a ∈ l ++ r := List.mem_append_right _ h
theorem jin_1 : ∀ w ∈ wsL_law_r1, w ∈ wsL_law := fun _ h => jinl (jinl (jinl (jinl (jinl (jinl (jinl (jinl (jinl (jinl (jinl (jinl (jinl (jinl (jinl h))))))))))))))
theorem jin_2 : ∀ w ∈ wsL_law_r2, w ∈ wsL_law := fun _ h => jinl (jinl (jinl (jinl (jinl (jinl (jinl (jinl (jinl (jinl (jinl (jinl (jinl (jinl (jinr (jinl h)))))))))))))))
theorem jin_3 : ∀ w ∈ wsL_law_r3, w ∈ wsL_law := fun _ h => jinl (jinl (jinl (jinl (jinl (jinl (jinl (jinl (jinl (jinl (jinl (jinl (jinl (jinl (jinr (jinr (jinl h))))))))))))))))
theorem jin_4 : ∀ w ∈ wsL_law_r4, w ∈ wsL_law := fun _ h => jinl (jinl (jinl (jinl (jinl (jinl (jinl (jinl (jinl (jinl (jinl (jinl (jinl (jinl (jinr (jinr (jinr (jinl h)))))))))))))))))
theorem jin_5 : ∀ w ∈ wsL_law_r5, w ∈ wsL_law := fun _ h => jinl (jinl (jinl (jinl (jinl (jinl (jinl (jinl (jinl (jinl (jinl (jinl (jinl (jinl (jinr (jinr (jinr (jinr (jinl h))))))))))))))))))
theorem jin_6 : ∀ w ∈ wsL_law_r6, w ∈ wsL_law := fun _ h => jinl (jinl (jinl (jinl (jinl (jinl (jinl (jinl (jinl (jinl (jinl (jinl (jinl (jinl (jinr (jinr (jinr (jinr (jinr (jinl h)))))))))))))))))))
theorem jin_7 : ∀ w ∈ wsL_law_r7, w ∈ wsL_law := fun _ h => jinl (jinl (jinl (jinl (jinl (jinl (jinl (jinl (jinl (jinl (jinl (jinl (jinl (jinl (jinr (jinr (jinr (jinr (jinr (jinr (jinl h))))))))))))))))))))
theorem jin_8 : ∀ w ∈ wsL_law_r8, w ∈ wsL_law := fun _ h => jinl (jinl (jinl (jinl (jinl (jinl (jinl (jinl (jinl (jinl (jinl (jinl (jinl (jinl (jinr (jinr (jinr (jinr (jinr (jinr (jinr (jinl h)))))))))))))))))))))
theorem jin_9 : ∀ w ∈ wsL_law_r9, w ∈ wsL_law := fun _ h => jinl (jinl (jinl (jinl (jinl (jinl (jinl (jinl (jinl (jinl (jinl (jinl (jinl (jinl (jinr (jinr (jinr (jinr (jinr (jinr (jinr (jinr (jinl h))))))))))))))))))))))
theorem jin_10 : ∀ w ∈ wsL_law_r10, w ∈ wsL_law := fun _ h => jinl (jinl (jinl (jinl (jinl (jinl (jinl (jinl (jinl (jinl (jinl (jinl (jinl (jinl (jinr (jinr (jinr (jinr (jinr (jinr (jinr (jinr (jinr (jinl h)))))))))))))))))))))))
theorem jin_11 : ∀ w ∈ wsL_law_r11, w ∈ wsL_law := fun _ h => jinl (jinl (jinl (jinl (jinl (jinl (jinl (jinl (jinl (jinl (jinl (jinl (jinl (jinl (jinr (jinr (jinr (jinr (jinr (jinr (jinr (jinr (jinr (jinr (jinl h))))))))))))))))))))))))
theorem jin_12 : ∀ w ∈ wsL_law_r12, w ∈ wsL_law := fun _ h => jinl (jinl (jinl (jinl (jinl (jinl (jinl (jinl (jinl (jinl (jinl (jinl (jinl (jinl (jinr (jinr (jinr (jinr (jinr (jinr (jinr (jinr (jinr (jinr (jinr (jinl h)))))))))))))))))))))))))
theorem jin_13 : ∀ w ∈ wsL_law_r13, w ∈ wsL_law := fun _ h => jinl (jinl (jinl (jinl (jinl (jinl (jinl (jinl (jinl (jinl (jinl (jinl (jinl (jinl (jinr (jinr (jinr (jinr (jinr (jinr (jinr (jinr (jinr (jinr (jinr (jinr (jinl h))))))))))))))))))))))))))
theorem jin_14 : ∀ w ∈ wsL_law_r14, w ∈ wsL_law := fun _ h => jinl (jinl (jinl (jinl (jinl (jinl (jinl (jinl (jinl (jinl (jinl (jinl (jinl (jinl (jinr (jinr (jinr (jinr (jinr (jinr (jinr (jinr (jinr (jinr (jinr (jinr (jinr (jinl h)))))))))))))))))))))))))))
theorem jin_15 : ∀ w ∈ wsL_law_r15, w ∈ wsL_law := fun _ h => jinl (jinl (jinl (jinl (jinl (jinl (jinl (jinl (jinl (jinl (jinl (jinl (jinl (jinl (jinr (jinr (jinr (jinr (jinr (jinr (jinr (jinr (jinr (jinr (jinr (jinr (jinr (jinr (jinl h))))))))))))))))))))))))))))
theorem jin_16 : ∀ w ∈ wsL_law_r16, w ∈ wsL_law := fun _ h => jinl (jinl (jinl (jinl (jinl (jinl (jinl (jinl (jinl (jinl (jinl (jinl (jinl (jinl (jinr (jinr (jinr (jinr (jinr (jinr (jinr (jinr (jinr (jinr (jinr (jinr (jinr (jinr (jinr (jinl h)))))))))))))))))))))))))))))
theorem jin_17 : ∀ w ∈ wsL_law_r17, w ∈ wsL_law := fun _ h => jinl (jinl (jinl (jinl (jinl (jinl (jinl (jinl (jinl (jinl (jinl (jinl (jinl (jinl (jinr (jinr (jinr (jinr (jinr (jinr (jinr (jinr (jinr (jinr (jinr (jinr (jinr (jinr (jinr (jinr (jinl h))))))))))))))))))))))))))))))
theorem jin_18 : ∀ w ∈ wsL_law_r18, w ∈ wsL_law := fun _ h => jinl (jinl (jinl (jinl (jinl (jinl (jinl (jinl (jinl (jinl (jinl (jinl (jinl (jinl (jinr (jinr (jinr (jinr (jinr (jinr (jinr (jinr (jinr (jinr (jinr (jinr (jinr (jinr (jinr (jinr (jinr (jinl h)))))))))))))))))))))))))))))))
theorem jin_19 : ∀ w ∈ wsL_law_r19, w ∈ wsL_law := fun _ h => jinl (jinl (jinl (jinl (jinl (jinl (jinl (jinl (jinl (jinl (jinl (jinl (jinl (jinl (jinr (jinr (jinr (jinr (jinr (jinr (jinr (jinr (jinr (jinr (jinr (jinr (jinr (jinr (jinr (jinr (jinr (jinr (jinl h))))))))))))))))))))))))))))))))
theorem jin_20 : ∀ w ∈ wsL_law_r20, w ∈ wsL_law := fun _ h => jinl (jinl (jinl (jinl (jinl (jinl (jinl (jinl (jinl (jinl (jinl (jinl (jinl (jinl (jinr (jinr (jinr (jinr (jinr (jinr (jinr (jinr (jinr (jinr (jinr (jinr (jinr (jinr (jinr (jinr (jinr (jinr (jinr (jinl h)))))))))))))))))))))))))))))))))
theorem jin_21 : ∀ w ∈ wsL_law_r21, w ∈ wsL_law := fun _ h => jinl (jinl (jinl (jinl (jinl (jinl (jinl (jinl (jinl (jinl (jinl (jinl (jinl (jinl (jinr (jinr (jinr (jinr (jinr (jinr (jinr (jinr (jinr (jinr (jinr (jinr (jinr (jinr (jinr (jinr (jinr (jinr (jinr (jinr (jinl h))))))))))))))))))))))))))))))))))
theorem jin_22 : ∀ w ∈ wsL_law_r22, w ∈ wsL_law := fun _ h => jinl (jinl (jinl (jinl (jinl (jinl (jinl (jinl (jinl (jinl (jinl (jinl (jinl (jinl (jinr (jinr (jinr (jinr (jinr (jinr (jinr (jinr (jinr (jinr (jinr (jinr (jinr (jinr (jinr (jinr (jinr (jinr (jinr (jinr (jinr (jinl h)))))))))))))))))))))))))))))))))))
theorem jin_23 : ∀ w ∈ wsL_law_r23, w ∈ wsL_law := fun _ h => jinl (jinl (jinl (jinl (jinl (jinl (jinl (jinl (jinl (jinl (jinl (jinl (jinl (jinl (jinr (jinr (jinr (jinr (jinr (jinr (jinr (jinr (jinr (jinr (jinr (jinr (jinr (jinr (jinr (jinr (jinr (jinr (jinr (jinr (jinr (jinr (jinl h))))))))))))))))))))))))))))))))))))
theorem jin_24 : ∀ w ∈ wsL_law_r24, w ∈ wsL_law := fun _ h => jinl (jinl (jinl (jinl (jinl (jinl (jinl (jinl (jinl (jinl (jinl (jinl (jinl (jinl (jinr (jinr (jinr (jinr (jinr (jinr (jinr (jinr (jinr (jinr (jinr (jinr (jinr (jinr (jinr (jinr (jinr (jinr (jinr (jinr (jinr (jinr (jinr (jinl h)))))))))))))))))))))))))))))))))))))
theorem jin_25 : ∀ w ∈ wsL_law_r25, w ∈ wsL_law := fun _ h => jinl (jinl (jinl (jinl (jinl (jinl (jinl (jinl (jinl (jinl (jinl (jinl (jinl (jinl (jinr (jinr (jinr (jinr (jinr (jinr (jinr (jinr (jinr (jinr (jinr (jinr (jinr (jinr (jinr (jinr (jinr (jinr (jinr (jinr (jinr (jinr (jinr (jinr (jinl h))))))))))))))))))))))))))))))))))))))
theorem jin_26 : ∀ w ∈ wsL_law_r26, w ∈ wsL_law := fun _ h => jinl (jinl (jinl (jinl (jinl (jinl (jinl (jinl (jinl (jinl (jinl (jinl (jinl (jinl (jinr (jinr (jinr (jinr (jinr (jinr (jinr (jinr (jinr (jinr (jinr (jinr (jinr (jinr (jinr (jinr (jinr (jinr (jinr (jinr (jinr (jinr (jinr (jinr (jinr (jinl h)))))))))))))))))))))))))))))))))))))))
theorem jin_27 : ∀ w ∈ wsL_law_r27, w ∈ wsL_law := fun _ h => jinl (jinl (jinl (jinl (jinl (jinl (jinl (jinl (jinl (jinl (jinl (jinl (jinl (jinl (jinr (jinr (jinr (jinr (jinr (jinr (jinr (jinr (jinr (jinr (jinr (jinr (jinr (jinr (jinr (jinr (jinr (jinr (jinr (jinr (jinr (jinr (jinr (jinr (jinr (jinr (jinl h))))))))))))))))))))))))))))))))))))))))
theorem jin_28 : ∀ w ∈ wsL_law_r28, w ∈ wsL_law := fun _ h => jinl (jinl (jinl (jinl (jinl (jinl (jinl (jinl (jinl (jinl (jinl (jinl (jinl (jinl (jinr (jinr (jinr (jinr (jinr (jinr (jinr (jinr (jinr (jinr (jinr (jinr (jinr (jinr (jinr (jinr (jinr (jinr (jinr (jinr (jinr (jinr (jinr (jinr (jinr (jinr (jinr (jinl h)))))))))))))))))))))))))))))))))))))))))
theorem jin_29 : ∀ w ∈ wsL_law_r29, w ∈ wsL_law := fun _ h => jinl (jinl (jinl (jinl (jinl (jinl (jinl (jinl (jinl (jinl (jinl (jinl (jinl (jinl (jinr (jinr (jinr (jinr (jinr (jinr (jinr (jinr (jinr (jinr (jinr (jinr (jinr (jinr (jinr (jinr (jinr (jinr (jinr (jinr (jinr (jinr (jinr (jinr (jinr (jinr (jinr (jinr (jinl h))))))))))))))))))))))))))))))))))))))))))
theorem jin_30 : ∀ w ∈ wsL_law_r30, w ∈ wsL_law := fun _ h => jinl (jinl (jinl (jinl (jinl (jinl (jinl (jinl (jinl (jinl (jinl (jinl (jinl (jinl (jinr (jinr (jinr (jinr (jinr (jinr (jinr (jinr (jinr (jinr (jinr (jinr (jinr (jinr (jinr (jinr (jinr (jinr (jinr (jinr (jinr (jinr (jinr (jinr (jinr (jinr (jinr (jinr (jinr (jinl h)))))))))))))))))))))))))))))))))))))))))))
theorem jin_31 : ∀ w ∈ wsL_law_r31, w ∈ wsL_law := fun _ h => jinl (jinl (jinl (jinl (jinl (jinl (jinl (jinl (jinl (jinl (jinl (jinl (jinl (jinl (jinr (jinr (jinr (jinr (jinr (jinr (jinr (jinr (jinr (jinr (jinr (jinr (jinr (jinr (jinr (jinr (jinr (jinr (jinr (jinr (jinr (jinr (jinr (jinr (jinr (jinr (jinr (jinr (jinr (jinr (jinl h))))))))))))))))))))))))))))))))))))))))))))
theorem jin_32 : ∀ w ∈ wsL_law_r32, w ∈ wsL_law := fun _ h => jinl (jinl (jinl (jinl (jinl (jinl (jinl (jinl (jinl (jinl (jinl (jinl (jinl (jinl (jinr (jinr (jinr (jinr (jinr (jinr (jinr (jinr (jinr (jinr (jinr (jinr (jinr (jinr (jinr (jinr (jinr (jinr (jinr (jinr (jinr (jinr (jinr (jinr (jinr (jinr (jinr (jinr (jinr (jinr (jinr (jinl h)))))))))))))))))))))))))))))))))))))))))))))
theorem jin_33 : ∀ w ∈ wsL_law_r33, w ∈ wsL_law := fun _ h => jinl (jinl (jinl (jinl (jinl (jinl (jinl (jinl (jinl (jinl (jinl (jinl (jinl (jinl (jinr (jinr (jinr (jinr (jinr (jinr (jinr (jinr (jinr (jinr (jinr (jinr (jinr (jinr (jinr (jinr (jinr (jinr (jinr (jinr (jinr (jinr (jinr (jinr (jinr (jinr (jinr (jinr (jinr (jinr (jinr (jinr (jinl h))))))))))))))))))))))))))))))))))))))))))))))
theorem jin_34 : ∀ w ∈ wsL_law_r34, w ∈ wsL_law := fun _ h => jinl (jinl (jinl (jinl (jinl (jinl (jinl (jinl (jinl (jinl (jinl (jinl (jinl (jinl (jinr (jinr (jinr (jinr (jinr (jinr (jinr (jinr (jinr (jinr (jinr (jinr (jinr (jinr (jinr (jinr (jinr (jinr (jinr (jinr (jinr (jinr (jinr (jinr (jinr (jinr (jinr (jinr (jinr (jinr (jinr (jinr (jinr (jinl h)))))))))))))))))))))))))))))))))))))))))))))))
theorem jin_35 : ∀ w ∈ wsL_law_r35, w ∈ wsL_law := fun _ h => jinl (jinl (jinl (jinl (jinl (jinl (jinl (jinl (jinl (jinl (jinl (jinl (jinl (jinl (jinr (jinr (jinr (jinr (jinr (jinr (jinr (jinr (jinr (jinr (jinr (jinr (jinr (jinr (jinr (jinr (jinr (jinr (jinr (jinr (jinr (jinr (jinr (jinr (jinr (jinr (jinr (jinr (jinr (jinr (jinr (jinr (jinr (jinr (jinl h))))))))))))))))))))))))))))))))))))))))))))))))
theorem jin_36 : ∀ w ∈ wsL_law_r36, w ∈ wsL_law := fun _ h => jinl (jinl (jinl (jinl (jinl (jinl (jinl (jinl (jinl (jinl (jinl (jinl (jinl (jinl (jinr (jinr (jinr (jinr (jinr (jinr (jinr (jinr (jinr (jinr (jinr (jinr (jinr (jinr (jinr (jinr (jinr (jinr (jinr (jinr (jinr (jinr (jinr (jinr (jinr (jinr (jinr (jinr (jinr (jinr (jinr (jinr (jinr (jinr (jinr (jinl h)))))))))))))))))))))))))))))))))))))))))))))))))
theorem jin_37 : ∀ w ∈ wsL_law_r37, w ∈ wsL_law := fun _ h => jinl (jinl (jinl (jinl (jinl (jinl (jinl (jinl (jinl (jinl (jinl (jinl (jinl (jinl (jinr (jinr (jinr (jinr (jinr (jinr (jinr (jinr (jinr (jinr (jinr (jinr (jinr (jinr (jinr (jinr (jinr (jinr (jinr (jinr (jinr (jinr (jinr (jinr (jinr (jinr (jinr (jinr (jinr (jinr (jinr (jinr (jinr (jinr (jinr (jinr (jinl h))))))))))))))))))))))))))))))))))))))))))))))))))
theorem jin_38 : ∀ w ∈ wsL_law_r38, w ∈ wsL_law := fun _ h => jinl (jinl (jinl (jinl (jinl (jinl (jinl (jinl (jinl (jinl (jinl (jinl (jinl (jinl (jinr (jinr (jinr (jinr (jinr (jinr (jinr (jinr (jinr (jinr (jinr (jinr (jinr (jinr (jinr (jinr (jinr (jinr (jinr (jinr (jinr (jinr (jinr (jinr (jinr (jinr (jinr (jinr (jinr (jinr (jinr (jinr (jinr (jinr (jinr (jinr (jinr (jinl h)))))))))))))))))))))))))))))))))))))))))))))))))))
theorem jin_39 : ∀ w ∈ wsL_law_r39, w ∈ wsL_law := fun _ h => jinl (jinl (jinl (jinl (jinl (jinl (jinl (jinl (jinl (jinl (jinl (jinl (jinl (jinl (jinr (jinr (jinr (jinr (jinr (jinr (jinr (jinr (jinr (jinr (jinr (jinr (jinr (jinr (jinr (jinr (jinr (jinr (jinr (jinr (jinr (jinr (jinr (jinr (jinr (jinr (jinr (jinr (jinr (jinr (jinr (jinr (jinr (jinr (jinr (jinr (jinr (jinr (jinl h))))))))))))))))))))))))))))))))))))))))))))))))))))
theorem jin_40 : ∀ w ∈ wsL_law_r40, w ∈ wsL_law := fun _ h => jinl (jinl (jinl (jinl (jinl (jinl (jinl (jinl (jinl (jinl (jinl (jinl (jinl (jinl (jinr (jinr (jinr (jinr (jinr (jinr (jinr (jinr (jinr (jinr (jinr (jinr (jinr (jinr (jinr (jinr (jinr (jinr (jinr (jinr (jinr (jinr (jinr (jinr (jinr (jinr (jinr (jinr (jinr (jinr (jinr (jinr (jinr (jinr (jinr (jinr (jinr (jinr (jinr (jinl h)))))))))))))))))))))))))))))))))))))))))))))))))))))
theorem jin_41 : ∀ w ∈ wsL_law_r41, w ∈ wsL_law := fun _ h => jinl (jinl (jinl (jinl (jinl (jinl (jinl (jinl (jinl (jinl (jinl (jinl (jinl (jinl (jinr (jinr (jinr (jinr (jinr (jinr (jinr (jinr (jinr (jinr (jinr (jinr (jinr (jinr (jinr (jinr (jinr (jinr (jinr (jinr (jinr (jinr (jinr (jinr (jinr (jinr (jinr (jinr (jinr (jinr (jinr (jinr (jinr (jinr (jinr (jinr (jinr (jinr (jinr (jinr (jinl h))))))))))))))))))))))))))))))))))))))))))))))))))))))
theorem jin_42 : ∀ w ∈ wsL_law_r42, w ∈ wsL_law := fun _ h => jinl (jinl (jinl (jinl (jinl (jinl (jinl (jinl (jinl (jinl (jinl (jinl (jinl (jinl (jinr (jinr (jinr (jinr (jinr (jinr (jinr (jinr (jinr (jinr (jinr (jinr (jinr (jinr (jinr (jinr (jinr (jinr (jinr (jinr (jinr (jinr (jinr (jinr (jinr (jinr (jinr (jinr (jinr (jinr (jinr (jinr (jinr (jinr (jinr (jinr (jinr (jinr (jinr (jinr (jinr (jinl h)))))))))))))))))))))))))))))))))))))))))))))))))))))))
theorem jin_43 : ∀ w ∈ wsL_law_r43, w ∈ wsL_law := fun _ h => jinl (jinl (jinl (jinl (jinl (jinl (jinl (jinl (jinl (jinl (jinl (jinl (jinl (jinl (jinr (jinr (jinr (jinr (jinr (jinr (jinr (jinr (jinr (jinr (jinr (jinr (jinr (jinr (jinr (jinr (jinr (jinr (jinr (jinr (jinr (jinr (jinr (jinr (jinr (jinr (jinr (jinr (jinr (jinr (jinr (jinr (jinr (jinr (jinr (jinr (jinr (jinr (jinr (jinr (jinr (jinr (jinl h))))))))))))))))))))))))))))))))))))))))))))))))))))))))
theorem jin_44 : ∀ w ∈ wsL_law_r44, w ∈ wsL_law := fun _ h => jinl (jinl (jinl (jinl (jinl (jinl (jinl (jinl (jinl (jinl (jinl (jinl (jinl (jinl (jinr (jinr (jinr (jinr (jinr (jinr (jinr (jinr (jinr (jinr (jinr (jinr (jinr (jinr (jinr (jinr (jinr (jinr (jinr (jinr (jinr (jinr (jinr (jinr (jinr (jinr (jinr (jinr (jinr (jinr (jinr (jinr (jinr (jinr (jinr (jinr (jinr (jinr (jinr (jinr (jinr (jinr (jinr (jinl h)))))))))))))))))))))))))))))))))))))))))))))))))))))))))
theorem jin_45 : ∀ w ∈ wsL_law_r45, w ∈ wsL_law := fun _ h => jinl (jinl (jinl (jinl (jinl (jinl (jinl (jinl (jinl (jinl (jinl (jinl (jinl (jinl (jinr (jinr (jinr (jinr (jinr (jinr (jinr (jinr (jinr (jinr (jinr (jinr (jinr (jinr (jinr (jinr (jinr (jinr (jinr (jinr (jinr (jinr (jinr (jinr (jinr (jinr (jinr (jinr (jinr (jinr (jinr (jinr (jinr (jinr (jinr (jinr (jinr (jinr (jinr (jinr (jinr (jinr (jinr (jinr (jinl h))))))))))))))))))))))))))))))))))))))))))))))))))))))))))
theorem jin_46 : ∀ w ∈ wsL_law_r46, w ∈ wsL_law := fun _ h => jinl (jinl (jinl (jinl (jinl (jinl (jinl (jinl (jinl (jinl (jinl (jinl (jinl (jinl (jinr (jinr (jinr (jinr (jinr (jinr (jinr (jinr (jinr (jinr (jinr (jinr (jinr (jinr (jinr (jinr (jinr (jinr (jinr (jinr (jinr (jinr (jinr (jinr (jinr (jinr (jinr (jinr (jinr (jinr (jinr (jinr (jinr (jinr (jinr (jinr (jinr (jinr (jinr (jinr (jinr (jinr (jinr (jinr (jinr (jinl h)))))))))))))))))))))))))))))))))))))))))))))))))))))))))))
theorem jin_47 : ∀ w ∈ wsL_law_r47, w ∈ wsL_law := fun _ h => jinl (jinl (jinl (jinl (jinl (jinl (jinl (jinl (jinl (jinl (jinl (jinl (jinl (jinl (jinr (jinr (jinr (jinr (jinr (jinr (jinr (jinr (jinr (jinr (jinr (jinr (jinr (jinr (jinr (jinr (jinr (jinr (jinr (jinr (jinr (jinr (jinr (jinr (jinr (jinr (jinr (jinr (jinr (jinr (jinr (jinr (jinr (jinr (jinr (jinr (jinr (jinr (jinr (jinr (jinr (jinr (jinr (jinr (jinr (jinr (jinl h))))))))))))))))))))))))))))))))))))))))))))))))))))))))))))
theorem jin_48 : ∀ w ∈ wsL_law_r48, w ∈ wsL_law := fun _ h => jinl (jinl (jinl (jinl (jinl (jinl (jinl (jinl (jinl (jinl (jinl (jinl (jinl (jinl (jinr (jinr (jinr (jinr (jinr (jinr (jinr (jinr (jinr (jinr (jinr (jinr (jinr (jinr (jinr (jinr (jinr (jinr (jinr (jinr (jinr (jinr (jinr (jinr (jinr (jinr (jinr (jinr (jinr (jinr (jinr (jinr (jinr (jinr (jinr (jinr (jinr (jinr (jinr (jinr (jinr (jinr (jinr (jinr (jinr (jinr (jinr (jinl h)))))))))))))))))))))))))))))))))))))))))))))))))))))))))))))
theorem jin_49 : ∀ w ∈ wsL_law_r49, w ∈ wsL_law := fun _ h => jinl (jinl (jinl (jinl (jinl (jinl (jinl (jinl (jinl (jinl (jinl (jinl (jinl (jinl (jinr (jinr (jinr (jinr (jinr (jinr (jinr (jinr (jinr (jinr (jinr (jinr (jinr (jinr (jinr (jinr (jinr (jinr (jinr (jinr (jinr (jinr (jinr (jinr (jinr (jinr (jinr (jinr (jinr (jinr (jinr (jinr (jinr (jinr (jinr (jinr (jinr (jinr (jinr (jinr (jinr (jinr (jinr (jinr (jinr (jinr (jinr (jinr (jinl h))))))))))))))))))))))))))))))))))))))))))))))))))))))))))))))
theorem jin_50 : ∀ w ∈ wsL_law_r50, w ∈ wsL_law := fun _ h => jinl (jinl (jinl (jinl (jinl (jinl (jinl (jinl (jinl (jinl (jinl (jinl (jinl (jinl (jinr (jinr (jinr (jinr (jinr (jinr (jinr (jinr (jinr (jinr (jinr (jinr (jinr (jinr (jinr (jinr (jinr (jinr (jinr (jinr (jinr (jinr (jinr (jinr (jinr (jinr (jinr (jinr (jinr (jinr (jinr (jinr (jinr (jinr (jinr (jinr (jinr (jinr (jinr (jinr (jinr (jinr (jinr (jinr (jinr (jinr (jinr (jinr (jinr (jinl h)))))))))))))))))))))))))))))))))))))))))))))))))))))))))))))))
theorem jin_51 : ∀ w ∈ wsL_law_r51, w ∈ wsL_law := fun _ h => jinl (jinl (jinl (jinl (jinl (jinl (jinl (jinl (jinl (jinl (jinl (jinl (jinl (jinl (jinr (jinr (jinr (jinr (jinr (jinr (jinr (jinr (jinr (jinr (jinr (jinr (jinr (jinr (jinr (jinr (jinr (jinr (jinr (jinr (jinr (jinr (jinr (jinr (jinr (jinr (jinr (jinr (jinr (jinr (jinr (jinr (jinr (jinr (jinr (jinr (jinr (jinr (jinr (jinr (jinr (jinr (jinr (jinr (jinr (jinr (jinr (jinr (jinr (jinr (jinl h))))))))))))))))))))))))))))))))))))))))))))))))))))))))))))))))
theorem jin_52 : ∀ w ∈ wsL_law_r52, w ∈ wsL_law := fun _ h => jinl (jinl (jinl (jinl (jinl (jinl (jinl (jinl (jinl (jinl (jinl (jinl (jinl (jinl (jinr (jinr (jinr (jinr (jinr (jinr (jinr (jinr (jinr (jinr (jinr (jinr (jinr (jinr (jinr (jinr (jinr (jinr (jinr (jinr (jinr (jinr (jinr (jinr (jinr (jinr (jinr (jinr (jinr (jinr (jinr (jinr (jinr (jinr (jinr (jinr (jinr (jinr (jinr (jinr (jinr (jinr (jinr (jinr (jinr (jinr (jinr (jinr (jinr (jinr (jinr (jinl h)))))))))))))))))))))))))))))))))))))))))))))))))))))))))))))))))
theorem jin_53 : ∀ w ∈ wsL_law_r53, w ∈ wsL_law := fun _ h => jinl (jinl (jinl (jinl (jinl (jinl (jinl (jinl (jinl (jinl (jinl (jinl (jinl (jinl (jinr (jinr (jinr (jinr (jinr (jinr (jinr (jinr (jinr (jinr (jinr (jinr (jinr (jinr (jinr (jinr (jinr (jinr (jinr (jinr (jinr (jinr (jinr (jinr (jinr (jinr (jinr (jinr (jinr (jinr (jinr (jinr (jinr (jinr (jinr (jinr (jinr (jinr (jinr (jinr (jinr (jinr (jinr (jinr (jinr (jinr (jinr (jinr (jinr (jinr (jinr (jinr (jinl h))))))))))))))))))))))))))))))))))))))))))))))))))))))))))))))))))
theorem jin_54 : ∀ w ∈ wsL_law_r54, w ∈ wsL_law := fun _ h => jinl (jinl (jinl (jinl (jinl (jinl (jinl (jinl (jinl (jinl (jinl (jinl (jinl (jinl (jinr (jinr (jinr (jinr (jinr (jinr (jinr (jinr (jinr (jinr (jinr (jinr (jinr (jinr (jinr (jinr (jinr (jinr (jinr (jinr (jinr (jinr (jinr (jinr (jinr (jinr (jinr (jinr (jinr (jinr (jinr (jinr (jinr (jinr (jinr (jinr (jinr (jinr (jinr (jinr (jinr (jinr (jinr (jinr (jinr (jinr (jinr (jinr (jinr (jinr (jinr (jinr (jinr (jinl h)))))))))))))))))))))))))))))))))))))))))))))))))))))))))))))))))))
theorem jin_55 : ∀ w ∈ wsL_law_r55, w ∈ wsL_law := fun _ h => jinl (jinl (jinl (jinl (jinl (jinl (jinl (jinl (jinl (jinl (jinl (jinl (jinl (jinl (jinr (jinr (jinr (jinr (jinr (jinr (jinr (jinr (jinr (jinr (jinr (jinr (jinr (jinr (jinr (jinr (jinr (jinr (jinr (jinr (jinr (jinr (jinr (jinr (jinr (jinr (jinr (jinr (jinr (jinr (jinr (jinr (jinr (jinr (jinr (jinr (jinr (jinr (jinr (jinr (jinr (jinr (jinr (jinr (jinr (jinr (jinr (jinr (jinr (jinr (jinr (jinr (jinr (jinr (jinl h))))))))))))))))))))))))))))))))))))))))))))))))))))))))))))))))))))
theorem jin_56 : ∀ w ∈ wsL_law_r56, w ∈ wsL_law := fun _ h => jinl (jinl (jinl (jinl (jinl (jinl (jinl (jinl (jinl (jinl (jinl (jinl (jinl (jinl (jinr (jinr (jinr (jinr (jinr (jinr (jinr (jinr (jinr (jinr (jinr (jinr (jinr (jinr (jinr (jinr (jinr (jinr (jinr (jinr (jinr (jinr (jinr (jinr (jinr (jinr (jinr (jinr (jinr (jinr (jinr (jinr (jinr (jinr (jinr (jinr (jinr (jinr (jinr (jinr (jinr (jinr (jinr (jinr (jinr (jinr (jinr (jinr (jinr (jinr (jinr (jinr (jinr (jinr (jinr (jinl h)))))))))))))))))))))))))))))))))))))))))))))))))))))))))))))))))))))
theorem jin_57 : ∀ w ∈ wsL_law_r57, w ∈ wsL_law := fun _ h => jinl (jinl (jinl (jinl (jinl (jinl (jinl (jinl (jinl (jinl (jinl (jinl (jinl (jinl (jinr (jinr (jinr (jinr (jinr (jinr (jinr (jinr (jinr (jinr (jinr (jinr (jinr (jinr (jinr (jinr (jinr (jinr (jinr (jinr (jinr (jinr (jinr (jinr (jinr (jinr (jinr (jinr (jinr (jinr (jinr (jinr (jinr (jinr (jinr (jinr (jinr (jinr (jinr (jinr (jinr (jinr (jinr (jinr (jinr (jinr (jinr (jinr (jinr (jinr (jinr (jinr (jinr (jinr (jinr (jinr (jinl h))))))))))))))))))))))))))))))))))))))))))))))))))))))))))))))))))))))
theorem jin_58 : ∀ w ∈ wsL_law_r58, w ∈ wsL_law := fun _ h => jinl (jinl (jinl (jinl (jinl (jinl (jinl (jinl (jinl (jinl (jinl (jinl (jinl (jinl (jinr (jinr (jinr (jinr (jinr (jinr (jinr (jinr (jinr (jinr (jinr (jinr (jinr (jinr (jinr (jinr (jinr (jinr (jinr (jinr (jinr (jinr (jinr (jinr (jinr (jinr (jinr (jinr (jinr (jinr (jinr (jinr (jinr (jinr (jinr (jinr (jinr (jinr (jinr (jinr (jinr (jinr (jinr (jinr (jinr (jinr (jinr (jinr (jinr (jinr (jinr (jinr (jinr (jinr (jinr (jinr (jinr (jinl h)))))))))))))))))))))))))))))))))))))))))))))))))))))))))))))))))))))))
theorem jin_59 : ∀ w ∈ wsL_law_r59, w ∈ wsL_law := fun _ h => jinl (jinl (jinl (jinl (jinl (jinl (jinl (jinl (jinl (jinl (jinl (jinl (jinl (jinl (jinr (jinr (jinr (jinr (jinr (jinr (jinr (jinr (jinr (jinr (jinr (jinr (jinr (jinr (jinr (jinr (jinr (jinr (jinr (jinr (jinr (jinr (jinr (jinr (jinr (jinr (jinr (jinr (jinr (jinr (jinr (jinr (jinr (jinr (jinr (jinr (jinr (jinr (jinr (jinr (jinr (jinr (jinr (jinr (jinr (jinr (jinr (jinr (jinr (jinr (jinr (jinr (jinr (jinr (jinr (jinr (jinr (jinr (jinl h))))))))))))))))))))))))))))))))))))))))))))))))))))))))))))))))))))))))
theorem jin_60 : ∀ w ∈ wsL_law_r60, w ∈ wsL_law := fun _ h => jinl (jinl (jinl (jinl (jinl (jinl (jinl (jinl (jinl (jinl (jinl (jinl (jinl (jinl (jinr (jinr (jinr (jinr (jinr (jinr (jinr (jinr (jinr (jinr (jinr (jinr (jinr (jinr (jinr (jinr (jinr (jinr (jinr (jinr (jinr (jinr (jinr (jinr (jinr (jinr (jinr (jinr (jinr (jinr (jinr (jinr (jinr (jinr (jinr (jinr (jinr (jinr (jinr (jinr (jinr (jinr (jinr (jinr (jinr (jinr (jinr (jinr (jinr (jinr (jinr (jinr (jinr (jinr (jinr (jinr (jinr (jinr (jinr (jinl h)))))))))))))))))))))))))))))))))))))))))))))))))))))))))))))))))))))))))
theorem jin_61 : ∀ w ∈ wsL_law_r61, w ∈ wsL_law := fun _ h => jinl (jinl (jinl (jinl (jinl (jinl (jinl (jinl (jinl (jinl (jinl (jinl (jinl (jinl (jinr (jinr (jinr (jinr (jinr (jinr (jinr (jinr (jinr (jinr (jinr (jinr (jinr (jinr (jinr (jinr (jinr (jinr (jinr (jinr (jinr (jinr (jinr (jinr (jinr (jinr (jinr (jinr (jinr (jinr (jinr (jinr (jinr (jinr (jinr (jinr (jinr (jinr (jinr (jinr (jinr (jinr (jinr (jinr (jinr (jinr (jinr (jinr (jinr (jinr (jinr (jinr (jinr (jinr (jinr (jinr (jinr (jinr (jinr (jinr (jinl h))))))))))))))))))))))))))))))))))))))))))))))))))))))))))))))))))))))))))
theorem jin_62 : ∀ w ∈ wsL_law_r62, w ∈ wsL_law := fun _ h => jinl (jinl (jinl (jinl (jinl (jinl (jinl (jinl (jinl (jinl (jinl (jinl (jinl (jinl (jinr (jinr (jinr (jinr (jinr (jinr (jinr (jinr (jinr (jinr (jinr (jinr (jinr (jinr (jinr (jinr (jinr (jinr (jinr (jinr (jinr (jinr (jinr (jinr (jinr (jinr (jinr (jinr (jinr (jinr (jinr (jinr (jinr (jinr (jinr (jinr (jinr (jinr (jinr (jinr (jinr (jinr (jinr (jinr (jinr (jinr (jinr (jinr (jinr (jinr (jinr (jinr (jinr (jinr (jinr (jinr (jinr (jinr (jinr (jinr (jinr (jinl h)))))))))))))))))))))))))))))))))))))))))))))))))))))))))))))))))))))))))))
theorem jin_63 : ∀ w ∈ wsL_law_r63, w ∈ wsL_law := fun _ h => jinl (jinl (jinl (jinl (jinl (jinl (jinl (jinl (jinl (jinl (jinl (jinl (jinl (jinl (jinr (jinr (jinr (jinr (jinr (jinr (jinr (jinr (jinr (jinr (jinr (jinr (jinr (jinr (jinr (jinr (jinr (jinr (jinr (jinr (jinr (jinr (jinr (jinr (jinr (jinr (jinr (jinr (jinr (jinr (jinr (jinr (jinr (jinr (jinr (jinr (jinr (jinr (jinr (jinr (jinr (jinr (jinr (jinr (jinr (jinr (jinr (jinr (jinr (jinr (jinr (jinr (jinr (jinr (jinr (jinr (jinr (jinr (jinr (jinr (jinr (jinr (jinl h))))))))))))))))))))))))))))))))))))))))))))))))))))))))))))))))))))))))))))
theorem jin_64 : ∀ w ∈ wsL_law_r64, w ∈ wsL_law := fun _ h => jinl (jinl (jinl (jinl (jinl (jinl (jinl (jinl (jinl (jinl (jinl (jinl (jinl (jinl (jinr (jinr (jinr (jinr (jinr (jinr (jinr (jinr (jinr (jinr (jinr (jinr (jinr (jinr (jinr (jinr (jinr (jinr (jinr (jinr (jinr (jinr (jinr (jinr (jinr (jinr (jinr (jinr (jinr (jinr (jinr (jinr (jinr (jinr (jinr (jinr (jinr (jinr (jinr (jinr (jinr (jinr (jinr (jinr (jinr (jinr (jinr (jinr (jinr (jinr (jinr (jinr (jinr (jinr (jinr (jinr (jinr (jinr (jinr (jinr (jinr (jinr (jinr (jinl h)))))))))))))))))))))))))))))))))))))))))))))))))))))))))))))))))))))))))))))
theorem jin_65 : ∀ w ∈ wsL_law_r65, w ∈ wsL_law := fun _ h => jinl (jinl (jinl (jinl (jinl (jinl (jinl (jinl (jinl (jinl (jinl (jinl (jinl (jinl (jinr (jinr (jinr (jinr (jinr (jinr (jinr (jinr (jinr (jinr (jinr (jinr (jinr (jinr (jinr (jinr (jinr (jinr (jinr (jinr (jinr (jinr (jinr (jinr (jinr (jinr (jinr (jinr (jinr (jinr (jinr (jinr (jinr (jinr (jinr (jinr (jinr (jinr (jinr (jinr (jinr (jinr (jinr (jinr (jinr (jinr (jinr (jinr (jinr (jinr (jinr (jinr (jinr (jinr (jinr (jinr (jinr (jinr (jinr (jinr (jinr (jinr (jinr (jinr h)))))))))))))))))))))))))))))))))))))))))))))))))))))))))))))))))))))))))))))
def kstr : List (Nat × String) := [(19, "let"), (25, "repeat"), (27, "end"), (29, "if"), (31, "surely"), (33, "else"), (35, "square"), (37, "cube"), (39, "root"), (41, "third"), (43, "over")]
/-- what the tables say of an entry of the class own -/
def jeOK (own : String) (idx : Nat) (e : JE) : Prop := match e.1 with
  | 0 => ∃ q : vw_C, vwCl[e.2.1]? = some q ∧ e.2.2.1 < q.2.2 ∧ Cond.fieldLink own idx (q.2.1 e.2.2.1).1 (q.2.1 e.2.2.1).2.1 (q.2.1 e.2.2.1).2.2.1 ∈ wsL_law
  | 1 => ∃ M, jM e.2.1 = some M ∧ Cond.methodLink own idx M.y ∈ wsL_law ∧ Cond.instanceMethod M.y ∈ wsL_law ∧ Cond.selects M.y.cls M.y M.y ∈ wsL_law
  | 2 => ∃ M, jM e.2.1 = some M ∧ Cond.methodLink own idx M.y ∈ wsL_law ∧ Cond.static M.y ∈ wsL_law
  | 3 => ∃ M, jM e.2.1 = some M ∧ Cond.methodLink own idx M.y ∈ wsL_law ∧ Cond.instanceMethod M.y ∈ wsL_law ∧ M.y.name = "<init>" ∧ M.ret = none
  | 4 => own = RX7 ∧ idx = 30 ∧ jM e.2.1 = some jm_X10_init ∧ Cond.instanceMethod yX10_init ∈ wsL_law
  | 5 => Cond.methodLink own idx objectInit ∈ wsL_law
  | 6 => Cond.methodLink own idx arraycopyName ∈ wsL_law
  | 7 => Cond.constant own idx (Int32.ofInt e.2.2.2) ∈ wsL_law
  | 8 => Cond.constantLong own idx (Int64.ofInt e.2.2.2) ∈ wsL_law
  | 9 => own = RX9 ∧ ∃ tx, kstr[e.2.1]? = some (idx, tx)
  | 10 => ∃ q : vw_C, vwCl[e.2.1]? = some q ∧ Cond.classLink own idx q.1 ∈ wsL_law
  | 11 => match e.2.1 with
    | 0 => Cond.fieldLink own idx RX8 "STEPS" "[I" ∈ wsL_law
    | 1 => Cond.fieldLink own idx RJ0 "COMPACT_STRINGS" "Z" ∈ wsL_law
    | 2 => Cond.fieldLink own idx RJ3 "SIOOBE_FORMATTER" "Ljava/util/function/BiFunction;" ∈ wsL_law
    | _ => False
  | 12 => match e.2.1 with
    | 0 => Cond.fieldLink own idx RJ0 "value" "[B" ∈ wsL_law
    | 1 => Cond.fieldLink own idx RJ0 "coder" "B" ∈ wsL_law
    | _ => False
  | _ => False
theorem jar_int : Cond.arrayClass .int ∈ wsL_law := (jin_3 _ (List.mem_of_getElem? (i := 4) rfl))
theorem jar_long : Cond.arrayClass .long ∈ wsL_law := (jin_4 _ (List.mem_of_getElem? (i := 10) rfl))
theorem jar_boolean : Cond.arrayClass .boolean ∈ wsL_law := (jin_8 _ (List.mem_of_getElem? (i := 0) rfl))
theorem jar_byte : Cond.arrayClass .byte ∈ wsL_law := (jin_10 _ (List.mem_of_getElem? (i := 14) rfl))
theorem jnew_0 : Cond.instantiable RX0 11 ∈ wsL_law ∧ Cond.initialized RX0 ∈ wsL_law := ⟨(jin_2 _ (List.mem_of_getElem? (i := 21) rfl)), (jin_2 _ (List.mem_of_getElem? (i := 22) rfl))⟩
theorem jnew_1 : Cond.instantiable RX1 4 ∈ wsL_law ∧ Cond.initialized RX1 ∈ wsL_law := ⟨(jin_2 _ (List.mem_of_getElem? (i := 17) rfl)), (jin_2 _ (List.mem_of_getElem? (i := 18) rfl))⟩
theorem jnew_2 : Cond.instantiable RX2 11 ∈ wsL_law ∧ Cond.initialized RX2 ∈ wsL_law := ⟨(jin_1 _ (List.mem_of_getElem? (i := 19) rfl)), (jin_1 _ (List.mem_of_getElem? (i := 20) rfl))⟩
theorem jnew_3 : Cond.instantiable RX3 3 ∈ wsL_law ∧ Cond.initialized RX3 ∈ wsL_law := ⟨(jin_1 _ (List.mem_of_getElem? (i := 13) rfl)), (jin_1 _ (List.mem_of_getElem? (i := 14) rfl))⟩
theorem jnew_4 : Cond.instantiable RX4 13 ∈ wsL_law ∧ Cond.initialized RX4 ∈ wsL_law := ⟨(jin_2 _ (List.mem_of_getElem? (i := 13) rfl)), (jin_2 _ (List.mem_of_getElem? (i := 14) rfl))⟩
theorem jnew_5 : Cond.instantiable RX5 12 ∈ wsL_law ∧ Cond.initialized RX5 ∈ wsL_law := ⟨(jin_2 _ (List.mem_of_getElem? (i := 3) rfl)), (jin_2 _ (List.mem_of_getElem? (i := 4) rfl))⟩
theorem jnew_6 : Cond.instantiable RX6 2 ∈ wsL_law ∧ Cond.initialized RX6 ∈ wsL_law := ⟨(jin_26 _ (List.mem_of_getElem? (i := 7) rfl)), (jin_26 _ (List.mem_of_getElem? (i := 8) rfl))⟩
theorem jnew_7 : Cond.instantiable RX7 20 ∈ wsL_law ∧ Cond.initialized RX7 ∈ wsL_law := ⟨(jin_2 _ (List.mem_of_getElem? (i := 9) rfl)), (jin_2 _ (List.mem_of_getElem? (i := 10) rfl))⟩
theorem jnew_8 : Cond.instantiable RX8 8 ∈ wsL_law ∧ Cond.initialized RX8 ∈ wsL_law := ⟨(jin_8 _ (List.mem_of_getElem? (i := 17) rfl)), (jin_8 _ (List.mem_of_getElem? (i := 18) rfl))⟩
theorem jnew_9 : Cond.instantiable RX9 10 ∈ wsL_law ∧ Cond.initialized RX9 ∈ wsL_law := ⟨(jin_1 _ (List.mem_of_getElem? (i := 23) rfl)), (jin_2 _ (List.mem_of_getElem? (i := 0) rfl))⟩
theorem jnew_10 : Cond.instantiable RX10 7 ∈ wsL_law ∧ Cond.initialized RX10 ∈ wsL_law := ⟨(jin_7 _ (List.mem_of_getElem? (i := 16) rfl)), (jin_7 _ (List.mem_of_getElem? (i := 17) rfl))⟩
theorem jnew_11 : Cond.instantiable RX11 12 ∈ wsL_law ∧ Cond.initialized RX11 ∈ wsL_law := ⟨(jin_1 _ (List.mem_of_getElem? (i := 1) rfl)), (jin_1 _ (List.mem_of_getElem? (i := 2) rfl))⟩
theorem jnew_12 : Cond.instantiable RX12 85 ∈ wsL_law ∧ Cond.initialized RX12 ∈ wsL_law := ⟨(jin_1 _ (List.mem_of_getElem? (i := 4) rfl)), (jin_1 _ (List.mem_of_getElem? (i := 5) rfl))⟩
theorem jobj : Cond.instanceMethod objectInit ∈ wsL_law ∧ Cond.code objectInit ⟨#[0xb1]⟩ 1 none ∈ wsL_law := ⟨(jin_1 _ (List.mem_of_getElem? (i := 10) rfl)), (jin_1 _ (List.mem_of_getElem? (i := 11) rfl))⟩
theorem jcopy : Cond.native arraycopyName ∈ wsL_law ∧ Cond.static arraycopyName ∈ wsL_law ∧ Cond.initialized "java/lang/System" ∈ wsL_law := ⟨(jin_53 _ (List.mem_of_getElem? (i := 16) rfl)), (jin_53 _ (List.mem_of_getElem? (i := 17) rfl)), (jin_53 _ (List.mem_of_getElem? (i := 18) rfl))⟩
theorem jq_0_9 : jeOK (jcn 0) 9 (5, 0, 0, 0) := (jin_10 _ (List.mem_of_getElem? (i := 0) rfl))
theorem jq_0_15 : jeOK (jcn 0) 15 (0, 0, 0, 0) := ⟨_, rfl, by decide, (jin_10 _ (List.mem_of_getElem? (i := 1) rfl))⟩
theorem jq_0_19 : jeOK (jcn 0) 19 (0, 0, 1, 0) := ⟨_, rfl, by decide, (jin_10 _ (List.mem_of_getElem? (i := 2) rfl))⟩
theorem jq_0_22 : jeOK (jcn 0) 22 (0, 0, 2, 0) := ⟨_, rfl, by decide, (jin_10 _ (List.mem_of_getElem? (i := 3) rfl))⟩
theorem jq_0_25 : jeOK (jcn 0) 25 (0, 0, 3, 0) := ⟨_, rfl, by decide, (jin_10 _ (List.mem_of_getElem? (i := 4) rfl))⟩
theorem jq_0_28 : jeOK (jcn 0) 28 (0, 0, 4, 0) := ⟨_, rfl, by decide, (jin_10 _ (List.mem_of_getElem? (i := 5) rfl))⟩
theorem jq_0_31 : jeOK (jcn 0) 31 (0, 0, 6, 0) := ⟨_, rfl, by decide, (jin_10 _ (List.mem_of_getElem? (i := 6) rfl))⟩
theorem jq_0_35 : jeOK (jcn 0) 35 (0, 0, 7, 0) := ⟨_, rfl, by decide, (jin_10 _ (List.mem_of_getElem? (i := 7) rfl))⟩
theorem jq_0_38 : jeOK (jcn 0) 38 (0, 0, 8, 0) := ⟨_, rfl, by decide, (jin_10 _ (List.mem_of_getElem? (i := 8) rfl))⟩
theorem jq_0_41 : jeOK (jcn 0) 41 (0, 0, 10, 0) := ⟨_, rfl, by decide, (jin_10 _ (List.mem_of_getElem? (i := 9) rfl))⟩
theorem jq_0_44 : jeOK (jcn 0) 44 (2, 273, 0, 0) := ⟨_, rfl, (jin_60 _ (List.mem_of_getElem? (i := 10) rfl)), (jin_60 _ (List.mem_of_getElem? (i := 11) rfl))⟩
theorem jq_0_48 : jeOK (jcn 0) 48 (0, 0, 5, 0) := ⟨_, rfl, by decide, (jin_60 _ (List.mem_of_getElem? (i := 18) rfl))⟩
theorem jq_0_52 : jeOK (jcn 0) 52 (1, 282, 0, 0) := ⟨_, rfl, (jin_62 _ (List.mem_of_getElem? (i := 5) rfl)), (jin_62 _ (List.mem_of_getElem? (i := 6) rfl)), (jin_62 _ (List.mem_of_getElem? (i := 7) rfl))⟩
theorem jq_0_56 : jeOK (jcn 0) 56 (2, 180, 0, 0) := ⟨_, rfl, (jin_62 _ (List.mem_of_getElem? (i := 2) rfl)), (jin_42 _ (List.mem_of_getElem? (i := 16) rfl))⟩
theorem jq_0_62 : jeOK (jcn 0) 62 (0, 0, 9, 0) := ⟨_, rfl, by decide, (jin_62 _ (List.mem_of_getElem? (i := 3) rfl))⟩
theorem jq_0_65 : jeOK (jcn 0) 65 (2, 125, 0, 0) := ⟨_, rfl, (jin_62 _ (List.mem_of_getElem? (i := 4) rfl)), (jin_31 _ (List.mem_of_getElem? (i := 4) rfl))⟩
theorem jq_0_68 : jeOK (jcn 0) 68 (1, 283, 0, 0) := ⟨_, rfl, (jin_62 _ (List.mem_of_getElem? (i := 9) rfl)), (jin_62 _ (List.mem_of_getElem? (i := 10) rfl)), (jin_62 _ (List.mem_of_getElem? (i := 11) rfl))⟩
theorem jq_0_72 : jeOK (jcn 0) 72 (2, 284, 0, 0) := ⟨_, rfl, (jin_62 _ (List.mem_of_getElem? (i := 13) rfl)), (jin_62 _ (List.mem_of_getElem? (i := 14) rfl))⟩
theorem jq_0_75 : jeOK (jcn 0) 75 (1, 294, 0, 0) := ⟨_, rfl, (jin_64 _ (List.mem_of_getElem? (i := 22) rfl)), (jin_64 _ (List.mem_of_getElem? (i := 7) rfl)), (jin_64 _ (List.mem_of_getElem? (i := 8) rfl))⟩
theorem jo_0 : jall (jeOK (jcn 0)) 0 jp_0 := ⟨⟨jq_0_9, jq_0_15, trivial⟩, ⟨jq_0_19, jq_0_22, jq_0_25, jq_0_28, jq_0_31, trivial⟩, ⟨jq_0_35, jq_0_38, jq_0_41, jq_0_44, trivial⟩, ⟨jq_0_48, jq_0_52, jq_0_56, jq_0_62, trivial⟩, ⟨jq_0_65, jq_0_68, jq_0_72, jq_0_75, trivial⟩, trivial⟩
theorem jq_1_3 : jeOK (jcn 1) 3 (5, 0, 0, 0) := (jin_9 _ (List.mem_of_getElem? (i := 16) rfl))
theorem jq_1_9 : jeOK (jcn 1) 9 (0, 1, 0, 0) := ⟨_, rfl, by decide, (jin_9 _ (List.mem_of_getElem? (i := 17) rfl))⟩
theorem jq_1_15 : jeOK (jcn 1) 15 (0, 1, 1, 0) := ⟨_, rfl, by decide, (jin_9 _ (List.mem_of_getElem? (i := 18) rfl))⟩
theorem jq_1_18 : jeOK (jcn 1) 18 (0, 1, 2, 0) := ⟨_, rfl, by decide, (jin_9 _ (List.mem_of_getElem? (i := 19) rfl))⟩
theorem jq_1_21 : jeOK (jcn 1) 21 (0, 1, 3, 0) := ⟨_, rfl, by decide, (jin_9 _ (List.mem_of_getElem? (i := 20) rfl))⟩
theorem jq_1_24 : jeOK (jcn 1) 24 (2, 4, 0, 0) := ⟨_, rfl, (jin_58 _ (List.mem_of_getElem? (i := 21) rfl)), (jin_3 _ (List.mem_of_getElem? (i := 19) rfl))⟩
theorem jq_1_30 : jeOK (jcn 1) 30 (2, 192, 0, 0) := ⟨_, rfl, (jin_58 _ (List.mem_of_getElem? (i := 22) rfl)), (jin_44 _ (List.mem_of_getElem? (i := 16) rfl))⟩
theorem jq_1_33 : jeOK (jcn 1) 33 (2, 269, 0, 0) := ⟨_, rfl, (jin_59 _ (List.mem_of_getElem? (i := 19) rfl)), (jin_59 _ (List.mem_of_getElem? (i := 20) rfl))⟩
theorem jo_1 : jall (jeOK (jcn 1)) 0 jp_1 := ⟨⟨jq_1_3, jq_1_9, jq_1_15, trivial⟩, ⟨jq_1_18, jq_1_21, jq_1_24, jq_1_30, trivial⟩, ⟨jq_1_33, trivial⟩, trivial⟩
theorem jq_2_3 : jeOK (jcn 2) 3 (5, 0, 0, 0) := (jin_4 _ (List.mem_of_getElem? (i := 1) rfl))
theorem jq_2_9 : jeOK (jcn 2) 9 (0, 2, 0, 0) := ⟨_, rfl, by decide, (jin_4 _ (List.mem_of_getElem? (i := 2) rfl))⟩
theorem jq_2_15 : jeOK (jcn 2) 15 (0, 2, 1, 0) := ⟨_, rfl, by decide, (jin_4 _ (List.mem_of_getElem? (i := 3) rfl))⟩
theorem jq_2_18 : jeOK (jcn 2) 18 (0, 2, 3, 0) := ⟨_, rfl, by decide, (jin_4 _ (List.mem_of_getElem? (i := 4) rfl))⟩
theorem jq_2_21 : jeOK (jcn 2) 21 (0, 2, 2, 0) := ⟨_, rfl, by decide, (jin_32 _ (List.mem_of_getElem? (i := 21) rfl))⟩
theorem jq_2_25 : jeOK (jcn 2) 25 (1, 136, 0, 0) := ⟨_, rfl, (jin_32 _ (List.mem_of_getElem? (i := 22) rfl)), (jin_32 _ (List.mem_of_getElem? (i := 23) rfl)), (jin_33 _ (List.mem_of_getElem? (i := 0) rfl))⟩
theorem jq_2_29 : jeOK (jcn 2) 29 (0, 2, 4, 0) := ⟨_, rfl, by decide, (jin_33 _ (List.mem_of_getElem? (i := 2) rfl))⟩
theorem jq_2_32 : jeOK (jcn 2) 32 (0, 2, 5, 0) := ⟨_, rfl, by decide, (jin_33 _ (List.mem_of_getElem? (i := 3) rfl))⟩
theorem jq_2_35 : jeOK (jcn 2) 35 (0, 2, 6, 0) := ⟨_, rfl, by decide, (jin_33 _ (List.mem_of_getElem? (i := 4) rfl))⟩
theorem jq_2_38 : jeOK (jcn 2) 38 (0, 2, 7, 0) := ⟨_, rfl, by decide, (jin_33 _ (List.mem_of_getElem? (i := 5) rfl))⟩
theorem jq_2_41 : jeOK (jcn 2) 41 (0, 2, 8, 0) := ⟨_, rfl, by decide, (jin_36 _ (List.mem_of_getElem? (i := 3) rfl))⟩
theorem jq_2_44 : jeOK (jcn 2) 44 (0, 2, 9, 0) := ⟨_, rfl, by decide, (jin_34 _ (List.mem_of_getElem? (i := 22) rfl))⟩
theorem jq_2_47 : jeOK (jcn 2) 47 (0, 2, 10, 0) := ⟨_, rfl, by decide, (jin_39 _ (List.mem_of_getElem? (i := 3) rfl))⟩
theorem jq_2_50 : jeOK (jcn 2) 50 (1, 108, 0, 0) := ⟨_, rfl, (jin_33 _ (List.mem_of_getElem? (i := 23) rfl)), (jin_28 _ (List.mem_of_getElem? (i := 3) rfl)), (jin_28 _ (List.mem_of_getElem? (i := 4) rfl))⟩
theorem jq_2_56 : jeOK (jcn 2) 56 (1, 117, 0, 0) := ⟨_, rfl, (jin_34 _ (List.mem_of_getElem? (i := 17) rfl)), (jin_29 _ (List.mem_of_getElem? (i := 16) rfl)), (jin_29 _ (List.mem_of_getElem? (i := 17) rfl))⟩
theorem jq_2_62 : jeOK (jcn 2) 62 (0, 8, 0, 0) := ⟨_, rfl, by decide, (jin_34 _ (List.mem_of_getElem? (i := 16) rfl))⟩
theorem jq_2_66 : jeOK (jcn 2) 66 (1, 144, 0, 0) := ⟨_, rfl, (jin_34 _ (List.mem_of_getElem? (i := 18) rfl)), (jin_34 _ (List.mem_of_getElem? (i := 19) rfl)), (jin_34 _ (List.mem_of_getElem? (i := 20) rfl))⟩
theorem jq_2_72 : jeOK (jcn 2) 72 (1, 151, 0, 0) := ⟨_, rfl, (jin_35 _ (List.mem_of_getElem? (i := 23) rfl)), (jin_36 _ (List.mem_of_getElem? (i := 0) rfl)), (jin_36 _ (List.mem_of_getElem? (i := 1) rfl))⟩
theorem jq_2_75 : jeOK (jcn 2) 75 (1, 124, 0, 0) := ⟨_, rfl, (jin_37 _ (List.mem_of_getElem? (i := 5) rfl)), (jin_30 _ (List.mem_of_getElem? (i := 19) rfl)), (jin_30 _ (List.mem_of_getElem? (i := 20) rfl))⟩
theorem jq_2_79 : jeOK (jcn 2) 79 (2, 116, 0, 0) := ⟨_, rfl, (jin_40 _ (List.mem_of_getElem? (i := 15) rfl)), (jin_29 _ (List.mem_of_getElem? (i := 13) rfl))⟩
theorem jq_2_83 : jeOK (jcn 2) 83 (1, 143, 0, 0) := ⟨_, rfl, (jin_40 _ (List.mem_of_getElem? (i := 16) rfl)), (jin_34 _ (List.mem_of_getElem? (i := 13) rfl)), (jin_34 _ (List.mem_of_getElem? (i := 14) rfl))⟩
theorem jq_2_87 : jeOK (jcn 2) 87 (1, 172, 0, 0) := ⟨_, rfl, (jin_40 _ (List.mem_of_getElem? (i := 17) rfl)), (jin_40 _ (List.mem_of_getElem? (i := 18) rfl)), (jin_40 _ (List.mem_of_getElem? (i := 19) rfl))⟩
theorem jq_2_91 : jeOK (jcn 2) 91 (1, 150, 0, 0) := ⟨_, rfl, (jin_41 _ (List.mem_of_getElem? (i := 5) rfl)), (jin_35 _ (List.mem_of_getElem? (i := 20) rfl)), (jin_35 _ (List.mem_of_getElem? (i := 21) rfl))⟩
theorem jo_2 : jall (jeOK (jcn 2)) 0 jp_2 := ⟨⟨jq_2_3, jq_2_9, jq_2_15, trivial⟩, ⟨jq_2_18, jq_2_21, jq_2_25, jq_2_29, trivial⟩, ⟨jq_2_32, jq_2_35, jq_2_38, jq_2_41, jq_2_44, jq_2_47, trivial⟩, ⟨jq_2_50, jq_2_56, jq_2_62, trivial⟩, ⟨jq_2_66, jq_2_72, jq_2_75, jq_2_79, trivial⟩, ⟨jq_2_83, jq_2_87, jq_2_91, trivial⟩, trivial⟩
theorem jq_3_3 : jeOK (jcn 3) 3 (5, 0, 0, 0) := (jin_3 _ (List.mem_of_getElem? (i := 3) rfl))
theorem jq_3_11 : jeOK (jcn 3) 11 (0, 3, 0, 0) := ⟨_, rfl, by decide, (jin_3 _ (List.mem_of_getElem? (i := 5) rfl))⟩
theorem jq_3_15 : jeOK (jcn 3) 15 (2, 2, 0, 0) := ⟨_, rfl, (jin_3 _ (List.mem_of_getElem? (i := 8) rfl)), (jin_3 _ (List.mem_of_getElem? (i := 9) rfl))⟩
theorem jq_3_19 : jeOK (jcn 3) 19 (2, 3, 0, 0) := ⟨_, rfl, (jin_3 _ (List.mem_of_getElem? (i := 15) rfl)), (jin_3 _ (List.mem_of_getElem? (i := 16) rfl))⟩
theorem jq_3_23 : jeOK (jcn 3) 23 (0, 3, 1, 0) := ⟨_, rfl, by decide, (jin_3 _ (List.mem_of_getElem? (i := 6) rfl))⟩
theorem jq_3_26 : jeOK (jcn 3) 26 (0, 3, 2, 0) := ⟨_, rfl, by decide, (jin_3 _ (List.mem_of_getElem? (i := 7) rfl))⟩
theorem jq_3_29 : jeOK (jcn 3) 29 (8, 0, 0, 1000000) := (jin_3 _ (List.mem_of_getElem? (i := 11) rfl))
theorem jq_3_31 : jeOK (jcn 3) 31 (8, 0, 0, 100000000) := (jin_3 _ (List.mem_of_getElem? (i := 12) rfl))
theorem jq_3_33 : jeOK (jcn 3) 33 (8, 0, 0, 1000000000) := (jin_3 _ (List.mem_of_getElem? (i := 13) rfl))
theorem jq_3_35 : jeOK (jcn 3) 35 (8, 0, 0, 10) := (jin_3 _ (List.mem_of_getElem? (i := 14) rfl))
theorem jq_3_37 : jeOK (jcn 3) 37 (2, 4, 0, 0) := ⟨_, rfl, (jin_3 _ (List.mem_of_getElem? (i := 18) rfl)), (jin_3 _ (List.mem_of_getElem? (i := 19) rfl))⟩
theorem jq_3_43 : jeOK (jcn 3) 43 (1, 95, 0, 0) := ⟨_, rfl, (jin_45 _ (List.mem_of_getElem? (i := 8) rfl)), (jin_25 _ (List.mem_of_getElem? (i := 16) rfl)), (jin_25 _ (List.mem_of_getElem? (i := 17) rfl))⟩
theorem jq_3_46 : jeOK (jcn 3) 46 (2, 125, 0, 0) := ⟨_, rfl, (jin_59 _ (List.mem_of_getElem? (i := 4) rfl)), (jin_31 _ (List.mem_of_getElem? (i := 4) rfl))⟩
theorem jo_3 : jall (jeOK (jcn 3)) 0 jp_3 := ⟨⟨jq_3_3, jq_3_11, jq_3_15, trivial⟩, ⟨jq_3_19, jq_3_23, jq_3_26, jq_3_29, jq_3_31, trivial⟩, ⟨jq_3_33, jq_3_35, jq_3_37, jq_3_43, jq_3_46, trivial⟩, trivial⟩
theorem jq_4_3 : jeOK (jcn 4) 3 (5, 0, 0, 0) := (jin_8 _ (List.mem_of_getElem? (i := 10) rfl))
theorem jq_4_11 : jeOK (jcn 4) 11 (0, 4, 0, 0) := ⟨_, rfl, by decide, (jin_8 _ (List.mem_of_getElem? (i := 11) rfl))⟩
theorem jq_4_15 : jeOK (jcn 4) 15 (0, 4, 1, 0) := ⟨_, rfl, by decide, (jin_8 _ (List.mem_of_getElem? (i := 12) rfl))⟩
theorem jq_4_18 : jeOK (jcn 4) 18 (0, 4, 2, 0) := ⟨_, rfl, by decide, (jin_8 _ (List.mem_of_getElem? (i := 13) rfl))⟩
theorem jq_4_22 : jeOK (jcn 4) 22 (10, 2, 0, 0) := ⟨_, rfl, (jin_8 _ (List.mem_of_getElem? (i := 14) rfl))⟩
theorem jq_4_24 : jeOK (jcn 4) 24 (3, 5, 0, 0) := ⟨_, rfl, (jin_8 _ (List.mem_of_getElem? (i := 23) rfl)), (jin_3 _ (List.mem_of_getElem? (i := 23) rfl)), rfl, rfl⟩
theorem jq_4_27 : jeOK (jcn 4) 27 (0, 4, 4, 0) := ⟨_, rfl, by decide, (jin_8 _ (List.mem_of_getElem? (i := 15) rfl))⟩
theorem jq_4_31 : jeOK (jcn 4) 31 (10, 8, 0, 0) := ⟨_, rfl, (jin_8 _ (List.mem_of_getElem? (i := 16) rfl))⟩
theorem jq_4_33 : jeOK (jcn 4) 33 (3, 24, 0, 0) := ⟨_, rfl, (jin_9 _ (List.mem_of_getElem? (i := 0) rfl)), (jin_9 _ (List.mem_of_getElem? (i := 1) rfl)), rfl, rfl⟩
theorem jq_4_36 : jeOK (jcn 4) 36 (0, 4, 5, 0) := ⟨_, rfl, by decide, (jin_8 _ (List.mem_of_getElem? (i := 19) rfl))⟩
theorem jq_4_40 : jeOK (jcn 4) 40 (0, 4, 6, 0) := ⟨_, rfl, by decide, (jin_8 _ (List.mem_of_getElem? (i := 20) rfl))⟩
theorem jq_4_43 : jeOK (jcn 4) 43 (0, 4, 7, 0) := ⟨_, rfl, by decide, (jin_8 _ (List.mem_of_getElem? (i := 21) rfl))⟩
theorem jq_4_46 : jeOK (jcn 4) 46 (0, 4, 8, 0) := ⟨_, rfl, by decide, (jin_8 _ (List.mem_of_getElem? (i := 22) rfl))⟩
theorem jq_4_49 : jeOK (jcn 4) 49 (0, 4, 3, 0) := ⟨_, rfl, by decide, (jin_51 _ (List.mem_of_getElem? (i := 12) rfl))⟩
theorem jq_4_53 : jeOK (jcn 4) 53 (0, 4, 9, 0) := ⟨_, rfl, by decide, (jin_51 _ (List.mem_of_getElem? (i := 13) rfl))⟩
theorem jq_4_57 : jeOK (jcn 4) 57 (1, 234, 0, 0) := ⟨_, rfl, (jin_55 _ (List.mem_of_getElem? (i := 18) rfl)), (jin_52 _ (List.mem_of_getElem? (i := 16) rfl)), (jin_52 _ (List.mem_of_getElem? (i := 17) rfl))⟩
theorem jq_4_60 : jeOK (jcn 4) 60 (0, 4, 10, 0) := ⟨_, rfl, by decide, (jin_52 _ (List.mem_of_getElem? (i := 19) rfl))⟩
theorem jq_4_63 : jeOK (jcn 4) 63 (0, 4, 11, 0) := ⟨_, rfl, by decide, (jin_52 _ (List.mem_of_getElem? (i := 20) rfl))⟩
theorem jq_4_66 : jeOK (jcn 4) 66 (1, 235, 0, 0) := ⟨_, rfl, (jin_52 _ (List.mem_of_getElem? (i := 21) rfl)), (jin_52 _ (List.mem_of_getElem? (i := 22) rfl)), (jin_52 _ (List.mem_of_getElem? (i := 23) rfl))⟩
theorem jq_4_70 : jeOK (jcn 4) 70 (1, 236, 0, 0) := ⟨_, rfl, (jin_53 _ (List.mem_of_getElem? (i := 1) rfl)), (jin_53 _ (List.mem_of_getElem? (i := 2) rfl)), (jin_53 _ (List.mem_of_getElem? (i := 3) rfl))⟩
theorem jq_4_74 : jeOK (jcn 4) 74 (1, 237, 0, 0) := ⟨_, rfl, (jin_53 _ (List.mem_of_getElem? (i := 5) rfl)), (jin_53 _ (List.mem_of_getElem? (i := 6) rfl)), (jin_53 _ (List.mem_of_getElem? (i := 7) rfl))⟩
theorem jq_4_78 : jeOK (jcn 4) 78 (1, 238, 0, 0) := ⟨_, rfl, (jin_54 _ (List.mem_of_getElem? (i := 0) rfl)), (jin_54 _ (List.mem_of_getElem? (i := 1) rfl)), (jin_54 _ (List.mem_of_getElem? (i := 2) rfl))⟩
theorem jq_4_81 : jeOK (jcn 4) 81 (1, 136, 0, 0) := ⟨_, rfl, (jin_53 _ (List.mem_of_getElem? (i := 19) rfl)), (jin_32 _ (List.mem_of_getElem? (i := 23) rfl)), (jin_33 _ (List.mem_of_getElem? (i := 0) rfl))⟩
theorem jq_4_85 : jeOK (jcn 4) 85 (1, 164, 0, 0) := ⟨_, rfl, (jin_53 _ (List.mem_of_getElem? (i := 20) rfl)), (jin_39 _ (List.mem_of_getElem? (i := 0) rfl)), (jin_39 _ (List.mem_of_getElem? (i := 1) rfl))⟩
theorem jq_4_88 : jeOK (jcn 4) 88 (2, 180, 0, 0) := ⟨_, rfl, (jin_53 _ (List.mem_of_getElem? (i := 9) rfl)), (jin_42 _ (List.mem_of_getElem? (i := 16) rfl))⟩
theorem jq_4_94 : jeOK (jcn 4) 94 (2, 4, 0, 0) := ⟨_, rfl, (jin_53 _ (List.mem_of_getElem? (i := 10) rfl)), (jin_3 _ (List.mem_of_getElem? (i := 19) rfl))⟩
theorem jq_4_97 : jeOK (jcn 4) 97 (1, 171, 0, 0) := ⟨_, rfl, (jin_53 _ (List.mem_of_getElem? (i := 21) rfl)), (jin_40 _ (List.mem_of_getElem? (i := 12) rfl)), (jin_40 _ (List.mem_of_getElem? (i := 13) rfl))⟩
theorem jq_4_101 : jeOK (jcn 4) 101 (1, 174, 0, 0) := ⟨_, rfl, (jin_53 _ (List.mem_of_getElem? (i := 22) rfl)), (jin_41 _ (List.mem_of_getElem? (i := 2) rfl)), (jin_41 _ (List.mem_of_getElem? (i := 3) rfl))⟩
theorem jq_4_104 : jeOK (jcn 4) 104 (1, 175, 0, 0) := ⟨_, rfl, (jin_53 _ (List.mem_of_getElem? (i := 23) rfl)), (jin_41 _ (List.mem_of_getElem? (i := 7) rfl)), (jin_41 _ (List.mem_of_getElem? (i := 8) rfl))⟩
theorem jq_4_108 : jeOK (jcn 4) 108 (0, 2, 8, 0) := ⟨_, rfl, by decide, (jin_53 _ (List.mem_of_getElem? (i := 11) rfl))⟩
theorem jq_4_111 : jeOK (jcn 4) 111 (0, 2, 9, 0) := ⟨_, rfl, by decide, (jin_53 _ (List.mem_of_getElem? (i := 12) rfl))⟩
theorem jq_4_114 : jeOK (jcn 4) 114 (0, 2, 10, 0) := ⟨_, rfl, by decide, (jin_53 _ (List.mem_of_getElem? (i := 13) rfl))⟩
theorem jq_4_117 : jeOK (jcn 4) 117 (0, 4, 12, 0) := ⟨_, rfl, by decide, (jin_53 _ (List.mem_of_getElem? (i := 14) rfl))⟩
theorem jq_4_120 : jeOK (jcn 4) 120 (6, 0, 0, 0) := (jin_53 _ (List.mem_of_getElem? (i := 15) rfl))
theorem jq_4_126 : jeOK (jcn 4) 126 (1, 239, 0, 0) := ⟨_, rfl, (jin_54 _ (List.mem_of_getElem? (i := 4) rfl)), (jin_54 _ (List.mem_of_getElem? (i := 5) rfl)), (jin_54 _ (List.mem_of_getElem? (i := 6) rfl))⟩
theorem jo_4 : jall (jeOK (jcn 4)) 0 jp_4 := ⟨⟨jq_4_3, jq_4_11, jq_4_15, trivial⟩, ⟨jq_4_18, jq_4_22, jq_4_24, jq_4_27, jq_4_31, trivial⟩, ⟨jq_4_33, jq_4_36, jq_4_40, jq_4_43, jq_4_46, trivial⟩, ⟨jq_4_49, jq_4_53, jq_4_57, jq_4_60, jq_4_63, trivial⟩, ⟨jq_4_66, jq_4_70, jq_4_74, jq_4_78, trivial⟩, ⟨jq_4_81, jq_4_85, jq_4_88, jq_4_94, trivial⟩, ⟨jq_4_97, jq_4_101, jq_4_104, jq_4_108, jq_4_111, trivial⟩, ⟨jq_4_114, jq_4_117, jq_4_120, jq_4_126, trivial⟩, trivial⟩
theorem jq_5_3 : jeOK (jcn 5) 3 (5, 0, 0, 0) := (jin_6 _ (List.mem_of_getElem? (i := 23) rfl))
theorem jq_5_11 : jeOK (jcn 5) 11 (0, 5, 0, 0) := ⟨_, rfl, by decide, (jin_7 _ (List.mem_of_getElem? (i := 0) rfl))⟩
theorem jq_5_15 : jeOK (jcn 5) 15 (0, 5, 1, 0) := ⟨_, rfl, by decide, (jin_7 _ (List.mem_of_getElem? (i := 1) rfl))⟩
theorem jq_5_18 : jeOK (jcn 5) 18 (0, 5, 2, 0) := ⟨_, rfl, by decide, (jin_7 _ (List.mem_of_getElem? (i := 2) rfl))⟩
theorem jq_5_21 : jeOK (jcn 5) 21 (0, 5, 3, 0) := ⟨_, rfl, by decide, (jin_7 _ (List.mem_of_getElem? (i := 3) rfl))⟩
theorem jq_5_24 : jeOK (jcn 5) 24 (0, 5, 5, 0) := ⟨_, rfl, by decide, (jin_7 _ (List.mem_of_getElem? (i := 4) rfl))⟩
theorem jq_5_28 : jeOK (jcn 5) 28 (0, 5, 8, 0) := ⟨_, rfl, by decide, (jin_7 _ (List.mem_of_getElem? (i := 5) rfl))⟩
theorem jq_5_31 : jeOK (jcn 5) 31 (0, 5, 11, 0) := ⟨_, rfl, by decide, (jin_7 _ (List.mem_of_getElem? (i := 6) rfl))⟩
theorem jq_5_35 : jeOK (jcn 5) 35 (0, 5, 4, 0) := ⟨_, rfl, by decide, (jin_14 _ (List.mem_of_getElem? (i := 17) rfl))⟩
theorem jq_5_38 : jeOK (jcn 5) 38 (1, 55, 0, 0) := ⟨_, rfl, (jin_18 _ (List.mem_of_getElem? (i := 5) rfl)), (jin_18 _ (List.mem_of_getElem? (i := 6) rfl)), (jin_18 _ (List.mem_of_getElem? (i := 7) rfl))⟩
theorem jq_5_44 : jeOK (jcn 5) 44 (0, 5, 10, 0) := ⟨_, rfl, by decide, (jin_14 _ (List.mem_of_getElem? (i := 21) rfl))⟩
theorem jq_5_47 : jeOK (jcn 5) 47 (0, 5, 6, 0) := ⟨_, rfl, by decide, (jin_14 _ (List.mem_of_getElem? (i := 18) rfl))⟩
theorem jq_5_50 : jeOK (jcn 5) 50 (0, 5, 7, 0) := ⟨_, rfl, by decide, (jin_14 _ (List.mem_of_getElem? (i := 19) rfl))⟩
theorem jq_5_53 : jeOK (jcn 5) 53 (0, 5, 9, 0) := ⟨_, rfl, by decide, (jin_14 _ (List.mem_of_getElem? (i := 20) rfl))⟩
theorem jq_5_56 : jeOK (jcn 5) 56 (1, 38, 0, 0) := ⟨_, rfl, (jin_14 _ (List.mem_of_getElem? (i := 23) rfl)), (jin_15 _ (List.mem_of_getElem? (i := 0) rfl)), (jin_15 _ (List.mem_of_getElem? (i := 1) rfl))⟩
theorem jq_5_59 : jeOK (jcn 5) 59 (1, 39, 0, 0) := ⟨_, rfl, (jin_15 _ (List.mem_of_getElem? (i := 4) rfl)), (jin_15 _ (List.mem_of_getElem? (i := 5) rfl)), (jin_15 _ (List.mem_of_getElem? (i := 6) rfl))⟩
theorem jq_5_63 : jeOK (jcn 5) 63 (1, 50, 0, 0) := ⟨_, rfl, (jin_17 _ (List.mem_of_getElem? (i := 3) rfl)), (jin_17 _ (List.mem_of_getElem? (i := 4) rfl)), (jin_17 _ (List.mem_of_getElem? (i := 5) rfl))⟩
theorem jq_5_67 : jeOK (jcn 5) 67 (0, 9, 1, 0) := ⟨_, rfl, by decide, (jin_14 _ (List.mem_of_getElem? (i := 22) rfl))⟩
theorem jq_5_70 : jeOK (jcn 5) 70 (1, 56, 0, 0) := ⟨_, rfl, (jin_18 _ (List.mem_of_getElem? (i := 9) rfl)), (jin_18 _ (List.mem_of_getElem? (i := 10) rfl)), (jin_18 _ (List.mem_of_getElem? (i := 11) rfl))⟩
theorem jq_5_74 : jeOK (jcn 5) 74 (1, 61, 0, 0) := ⟨_, rfl, (jin_19 _ (List.mem_of_getElem? (i := 5) rfl)), (jin_19 _ (List.mem_of_getElem? (i := 6) rfl)), (jin_19 _ (List.mem_of_getElem? (i := 7) rfl))⟩
theorem jq_5_77 : jeOK (jcn 5) 77 (1, 51, 0, 0) := ⟨_, rfl, (jin_17 _ (List.mem_of_getElem? (i := 13) rfl)), (jin_17 _ (List.mem_of_getElem? (i := 14) rfl)), (jin_17 _ (List.mem_of_getElem? (i := 15) rfl))⟩
theorem jq_5_81 : jeOK (jcn 5) 81 (0, 9, 4, 0) := ⟨_, rfl, by decide, (jin_17 _ (List.mem_of_getElem? (i := 7) rfl))⟩
theorem jq_5_84 : jeOK (jcn 5) 84 (0, 9, 5, 0) := ⟨_, rfl, by decide, (jin_17 _ (List.mem_of_getElem? (i := 8) rfl))⟩
theorem jq_5_88 : jeOK (jcn 5) 88 (1, 57, 0, 0) := ⟨_, rfl, (jin_18 _ (List.mem_of_getElem? (i := 13) rfl)), (jin_18 _ (List.mem_of_getElem? (i := 14) rfl)), (jin_18 _ (List.mem_of_getElem? (i := 15) rfl))⟩
theorem jq_5_92 : jeOK (jcn 5) 92 (0, 9, 6, 0) := ⟨_, rfl, by decide, (jin_17 _ (List.mem_of_getElem? (i := 9) rfl))⟩
theorem jq_5_95 : jeOK (jcn 5) 95 (0, 9, 7, 0) := ⟨_, rfl, by decide, (jin_17 _ (List.mem_of_getElem? (i := 10) rfl))⟩
theorem jq_5_98 : jeOK (jcn 5) 98 (0, 9, 9, 0) := ⟨_, rfl, by decide, (jin_17 _ (List.mem_of_getElem? (i := 11) rfl))⟩
theorem jq_5_102 : jeOK (jcn 5) 102 (0, 9, 8, 0) := ⟨_, rfl, by decide, (jin_17 _ (List.mem_of_getElem? (i := 12) rfl))⟩
theorem jq_5_105 : jeOK (jcn 5) 105 (1, 58, 0, 0) := ⟨_, rfl, (jin_18 _ (List.mem_of_getElem? (i := 17) rfl)), (jin_18 _ (List.mem_of_getElem? (i := 18) rfl)), (jin_18 _ (List.mem_of_getElem? (i := 19) rfl))⟩
theorem jq_5_108 : jeOK (jcn 5) 108 (1, 59, 0, 0) := ⟨_, rfl, (jin_18 _ (List.mem_of_getElem? (i := 21) rfl)), (jin_18 _ (List.mem_of_getElem? (i := 22) rfl)), (jin_18 _ (List.mem_of_getElem? (i := 23) rfl))⟩
theorem jq_5_111 : jeOK (jcn 5) 111 (1, 52, 0, 0) := ⟨_, rfl, (jin_17 _ (List.mem_of_getElem? (i := 17) rfl)), (jin_17 _ (List.mem_of_getElem? (i := 18) rfl)), (jin_17 _ (List.mem_of_getElem? (i := 19) rfl))⟩
theorem jq_5_114 : jeOK (jcn 5) 114 (1, 53, 0, 0) := ⟨_, rfl, (jin_17 _ (List.mem_of_getElem? (i := 21) rfl)), (jin_17 _ (List.mem_of_getElem? (i := 22) rfl)), (jin_17 _ (List.mem_of_getElem? (i := 23) rfl))⟩
theorem jq_5_117 : jeOK (jcn 5) 117 (1, 54, 0, 0) := ⟨_, rfl, (jin_18 _ (List.mem_of_getElem? (i := 1) rfl)), (jin_18 _ (List.mem_of_getElem? (i := 2) rfl)), (jin_18 _ (List.mem_of_getElem? (i := 3) rfl))⟩
theorem jq_5_120 : jeOK (jcn 5) 120 (1, 60, 0, 0) := ⟨_, rfl, (jin_19 _ (List.mem_of_getElem? (i := 1) rfl)), (jin_19 _ (List.mem_of_getElem? (i := 2) rfl)), (jin_19 _ (List.mem_of_getElem? (i := 3) rfl))⟩
theorem jq_5_124 : jeOK (jcn 5) 124 (1, 62, 0, 0) := ⟨_, rfl, (jin_19 _ (List.mem_of_getElem? (i := 9) rfl)), (jin_19 _ (List.mem_of_getElem? (i := 10) rfl)), (jin_19 _ (List.mem_of_getElem? (i := 11) rfl))⟩
theorem jq_5_127 : jeOK (jcn 5) 127 (1, 63, 0, 0) := ⟨_, rfl, (jin_19 _ (List.mem_of_getElem? (i := 13) rfl)), (jin_19 _ (List.mem_of_getElem? (i := 14) rfl)), (jin_19 _ (List.mem_of_getElem? (i := 15) rfl))⟩
theorem jq_5_130 : jeOK (jcn 5) 130 (1, 64, 0, 0) := ⟨_, rfl, (jin_19 _ (List.mem_of_getElem? (i := 17) rfl)), (jin_19 _ (List.mem_of_getElem? (i := 18) rfl)), (jin_19 _ (List.mem_of_getElem? (i := 19) rfl))⟩
theorem jq_5_133 : jeOK (jcn 5) 133 (1, 65, 0, 0) := ⟨_, rfl, (jin_19 _ (List.mem_of_getElem? (i := 21) rfl)), (jin_19 _ (List.mem_of_getElem? (i := 22) rfl)), (jin_19 _ (List.mem_of_getElem? (i := 23) rfl))⟩
theorem jo_5 : jall (jeOK (jcn 5)) 0 jp_5 := ⟨⟨jq_5_3, jq_5_11, jq_5_15, trivial⟩, ⟨jq_5_18, jq_5_21, jq_5_24, jq_5_28, jq_5_31, trivial⟩, ⟨jq_5_35, jq_5_38, jq_5_44, jq_5_47, trivial⟩, ⟨jq_5_50, jq_5_53, jq_5_56, jq_5_59, jq_5_63, trivial⟩, ⟨jq_5_67, jq_5_70, jq_5_74, jq_5_77, trivial⟩, ⟨jq_5_81, jq_5_84, jq_5_88, jq_5_92, jq_5_95, trivial⟩, ⟨jq_5_98, jq_5_102, jq_5_105, jq_5_108, jq_5_111, trivial⟩, ⟨jq_5_114, jq_5_117, jq_5_120, jq_5_124, jq_5_127, trivial⟩, ⟨jq_5_130, jq_5_133, trivial⟩, trivial⟩
theorem jq_6_3 : jeOK (jcn 6) 3 (5, 0, 0, 0) := (jin_26 _ (List.mem_of_getElem? (i := 12) rfl))
theorem jq_6_11 : jeOK (jcn 6) 11 (10, 8, 0, 0) := ⟨_, rfl, (jin_26 _ (List.mem_of_getElem? (i := 13) rfl))⟩
theorem jq_6_13 : jeOK (jcn 6) 13 (0, 6, 0, 0) := ⟨_, rfl, by decide, (jin_26 _ (List.mem_of_getElem? (i := 14) rfl))⟩
theorem jq_6_17 : jeOK (jcn 6) 17 (0, 6, 1, 0) := ⟨_, rfl, by decide, (jin_27 _ (List.mem_of_getElem? (i := 8) rfl))⟩
theorem jq_6_21 : jeOK (jcn 6) 21 (3, 24, 0, 0) := ⟨_, rfl, (jin_27 _ (List.mem_of_getElem? (i := 9) rfl)), (jin_9 _ (List.mem_of_getElem? (i := 1) rfl)), rfl, rfl⟩
theorem jq_6_24 : jeOK (jcn 6) 24 (0, 8, 0, 0) := ⟨_, rfl, by decide, (jin_40 _ (List.mem_of_getElem? (i := 8) rfl))⟩
theorem jq_6_28 : jeOK (jcn 6) 28 (0, 8, 1, 0) := ⟨_, rfl, by decide, (jin_40 _ (List.mem_of_getElem? (i := 9) rfl))⟩
theorem jq_6_31 : jeOK (jcn 6) 31 (0, 8, 2, 0) := ⟨_, rfl, by decide, (jin_40 _ (List.mem_of_getElem? (i := 10) rfl))⟩
theorem jo_6 : jall (jeOK (jcn 6)) 0 jp_6 := ⟨⟨jq_6_3, jq_6_11, jq_6_13, trivial⟩, ⟨jq_6_17, jq_6_21, jq_6_24, jq_6_28, jq_6_31, trivial⟩, trivial⟩
theorem jq_7_3 : jeOK (jcn 7) 3 (5, 0, 0, 0) := (jin_7 _ (List.mem_of_getElem? (i := 10) rfl))
theorem jq_7_9 : jeOK (jcn 7) 9 (0, 7, 0, 0) := ⟨_, rfl, by decide, (jin_7 _ (List.mem_of_getElem? (i := 11) rfl))⟩
theorem jq_7_15 : jeOK (jcn 7) 15 (0, 7, 1, 0) := ⟨_, rfl, by decide, (jin_7 _ (List.mem_of_getElem? (i := 12) rfl))⟩
theorem jq_7_21 : jeOK (jcn 7) 21 (10, 10, 0, 0) := ⟨_, rfl, (jin_7 _ (List.mem_of_getElem? (i := 13) rfl))⟩
theorem jq_7_23 : jeOK (jcn 7) 23 (0, 7, 3, 0) := ⟨_, rfl, by decide, (jin_7 _ (List.mem_of_getElem? (i := 14) rfl))⟩
theorem jq_7_27 : jeOK (jcn 7) 27 (0, 7, 4, 0) := ⟨_, rfl, by decide, (jin_7 _ (List.mem_of_getElem? (i := 15) rfl))⟩
theorem jq_7_30 : jeOK (jcn 7) 30 (4, 22, 0, 0) := ⟨rfl, rfl, rfl, (jin_8 _ (List.mem_of_getElem? (i := 4) rfl))⟩
theorem jq_7_31 : jeOK (jcn 7) 31 (0, 7, 5, 0) := ⟨_, rfl, by decide, (jin_7 _ (List.mem_of_getElem? (i := 18) rfl))⟩
theorem jq_7_35 : jeOK (jcn 7) 35 (0, 7, 6, 0) := ⟨_, rfl, by decide, (jin_7 _ (List.mem_of_getElem? (i := 19) rfl))⟩
theorem jq_7_38 : jeOK (jcn 7) 38 (0, 7, 7, 0) := ⟨_, rfl, by decide, (jin_7 _ (List.mem_of_getElem? (i := 20) rfl))⟩
theorem jq_7_41 : jeOK (jcn 7) 41 (0, 7, 8, 0) := ⟨_, rfl, by decide, (jin_7 _ (List.mem_of_getElem? (i := 21) rfl))⟩
theorem jq_7_45 : jeOK (jcn 7) 45 (0, 7, 9, 0) := ⟨_, rfl, by decide, (jin_7 _ (List.mem_of_getElem? (i := 22) rfl))⟩
theorem jq_7_48 : jeOK (jcn 7) 48 (0, 7, 10, 0) := ⟨_, rfl, by decide, (jin_7 _ (List.mem_of_getElem? (i := 23) rfl))⟩
theorem jq_7_51 : jeOK (jcn 7) 51 (0, 7, 11, 0) := ⟨_, rfl, by decide, (jin_8 _ (List.mem_of_getElem? (i := 1) rfl))⟩
theorem jq_7_55 : jeOK (jcn 7) 55 (0, 7, 13, 0) := ⟨_, rfl, by decide, (jin_8 _ (List.mem_of_getElem? (i := 2) rfl))⟩
theorem jq_7_58 : jeOK (jcn 7) 58 (0, 7, 18, 0) := ⟨_, rfl, by decide, (jin_8 _ (List.mem_of_getElem? (i := 3) rfl))⟩
theorem jq_7_62 : jeOK (jcn 7) 62 (0, 10, 0, 0) := ⟨_, rfl, by decide, (jin_20 _ (List.mem_of_getElem? (i := 8) rfl))⟩
theorem jq_7_66 : jeOK (jcn 7) 66 (2, 67, 0, 0) := ⟨_, rfl, (jin_20 _ (List.mem_of_getElem? (i := 5) rfl)), (jin_20 _ (List.mem_of_getElem? (i := 6) rfl))⟩
theorem jq_7_70 : jeOK (jcn 7) 70 (1, 225, 0, 0) := ⟨_, rfl, (jin_50 _ (List.mem_of_getElem? (i := 20) rfl)), (jin_50 _ (List.mem_of_getElem? (i := 21) rfl)), (jin_50 _ (List.mem_of_getElem? (i := 22) rfl))⟩
theorem jq_7_74 : jeOK (jcn 7) 74 (0, 2, 4, 0) := ⟨_, rfl, by decide, (jin_38 _ (List.mem_of_getElem? (i := 10) rfl))⟩
theorem jq_7_79 : jeOK (jcn 7) 79 (0, 2, 5, 0) := ⟨_, rfl, by decide, (jin_38 _ (List.mem_of_getElem? (i := 11) rfl))⟩
theorem jq_7_82 : jeOK (jcn 7) 82 (0, 2, 6, 0) := ⟨_, rfl, by decide, (jin_38 _ (List.mem_of_getElem? (i := 12) rfl))⟩
theorem jq_7_85 : jeOK (jcn 7) 85 (0, 2, 7, 0) := ⟨_, rfl, by decide, (jin_38 _ (List.mem_of_getElem? (i := 13) rfl))⟩
theorem jq_7_88 : jeOK (jcn 7) 88 (0, 7, 2, 0) := ⟨_, rfl, by decide, (jin_38 _ (List.mem_of_getElem? (i := 14) rfl))⟩
theorem jq_7_92 : jeOK (jcn 7) 92 (1, 164, 0, 0) := ⟨_, rfl, (jin_38 _ (List.mem_of_getElem? (i := 23) rfl)), (jin_39 _ (List.mem_of_getElem? (i := 0) rfl)), (jin_39 _ (List.mem_of_getElem? (i := 1) rfl))⟩
theorem jq_7_95 : jeOK (jcn 7) 95 (0, 7, 14, 0) := ⟨_, rfl, by decide, (jin_38 _ (List.mem_of_getElem? (i := 15) rfl))⟩
theorem jq_7_98 : jeOK (jcn 7) 98 (0, 7, 15, 0) := ⟨_, rfl, by decide, (jin_38 _ (List.mem_of_getElem? (i := 16) rfl))⟩
theorem jq_7_101 : jeOK (jcn 7) 101 (7, 0, 0, 1000000) := (jin_38 _ (List.mem_of_getElem? (i := 17) rfl))
theorem jq_7_102 : jeOK (jcn 7) 102 (0, 5, 4, 0) := ⟨_, rfl, by decide, (jin_38 _ (List.mem_of_getElem? (i := 18) rfl))⟩
theorem jq_7_105 : jeOK (jcn 7) 105 (1, 54, 0, 0) := ⟨_, rfl, (jin_39 _ (List.mem_of_getElem? (i := 4) rfl)), (jin_18 _ (List.mem_of_getElem? (i := 2) rfl)), (jin_18 _ (List.mem_of_getElem? (i := 3) rfl))⟩
theorem jq_7_108 : jeOK (jcn 7) 108 (1, 165, 0, 0) := ⟨_, rfl, (jin_39 _ (List.mem_of_getElem? (i := 5) rfl)), (jin_39 _ (List.mem_of_getElem? (i := 6) rfl)), (jin_39 _ (List.mem_of_getElem? (i := 7) rfl))⟩
theorem jq_7_112 : jeOK (jcn 7) 112 (1, 167, 0, 0) := ⟨_, rfl, (jin_39 _ (List.mem_of_getElem? (i := 14) rfl)), (jin_39 _ (List.mem_of_getElem? (i := 15) rfl)), (jin_39 _ (List.mem_of_getElem? (i := 16) rfl))⟩
theorem jq_7_115 : jeOK (jcn 7) 115 (1, 181, 0, 0) := ⟨_, rfl, (jin_42 _ (List.mem_of_getElem? (i := 19) rfl)), (jin_42 _ (List.mem_of_getElem? (i := 20) rfl)), (jin_42 _ (List.mem_of_getElem? (i := 21) rfl))⟩
theorem jq_7_118 : jeOK (jcn 7) 118 (1, 182, 0, 0) := ⟨_, rfl, (jin_42 _ (List.mem_of_getElem? (i := 23) rfl)), (jin_43 _ (List.mem_of_getElem? (i := 0) rfl)), (jin_43 _ (List.mem_of_getElem? (i := 1) rfl))⟩
theorem jq_7_121 : jeOK (jcn 7) 121 (1, 65, 0, 0) := ⟨_, rfl, (jin_41 _ (List.mem_of_getElem? (i := 16) rfl)), (jin_19 _ (List.mem_of_getElem? (i := 22) rfl)), (jin_19 _ (List.mem_of_getElem? (i := 23) rfl))⟩
theorem jq_7_124 : jeOK (jcn 7) 124 (1, 187, 0, 0) := ⟨_, rfl, (jin_43 _ (List.mem_of_getElem? (i := 18) rfl)), (jin_43 _ (List.mem_of_getElem? (i := 19) rfl)), (jin_43 _ (List.mem_of_getElem? (i := 20) rfl))⟩
theorem jq_7_127 : jeOK (jcn 7) 127 (1, 188, 0, 0) := ⟨_, rfl, (jin_43 _ (List.mem_of_getElem? (i := 22) rfl)), (jin_43 _ (List.mem_of_getElem? (i := 23) rfl)), (jin_44 _ (List.mem_of_getElem? (i := 0) rfl))⟩
theorem jq_7_130 : jeOK (jcn 7) 130 (1, 136, 0, 0) := ⟨_, rfl, (jin_45 _ (List.mem_of_getElem? (i := 11) rfl)), (jin_32 _ (List.mem_of_getElem? (i := 23) rfl)), (jin_33 _ (List.mem_of_getElem? (i := 0) rfl))⟩
theorem jq_7_134 : jeOK (jcn 7) 134 (0, 7, 17, 0) := ⟨_, rfl, by decide, (jin_38 _ (List.mem_of_getElem? (i := 19) rfl))⟩
theorem jq_7_137 : jeOK (jcn 7) 137 (0, 7, 16, 0) := ⟨_, rfl, by decide, (jin_38 _ (List.mem_of_getElem? (i := 20) rfl))⟩
theorem jq_7_140 : jeOK (jcn 7) 140 (1, 63, 0, 0) := ⟨_, rfl, (jin_45 _ (List.mem_of_getElem? (i := 12) rfl)), (jin_19 _ (List.mem_of_getElem? (i := 14) rfl)), (jin_19 _ (List.mem_of_getElem? (i := 15) rfl))⟩
theorem jq_7_143 : jeOK (jcn 7) 143 (0, 2, 9, 0) := ⟨_, rfl, by decide, (jin_38 _ (List.mem_of_getElem? (i := 21) rfl))⟩
theorem jq_7_146 : jeOK (jcn 7) 146 (0, 7, 19, 0) := ⟨_, rfl, by decide, (jin_38 _ (List.mem_of_getElem? (i := 22) rfl))⟩
theorem jq_7_147 : jeOK (jcn 7) 147 (1, 166, 0, 0) := ⟨_, rfl, (jin_39 _ (List.mem_of_getElem? (i := 10) rfl)), (jin_39 _ (List.mem_of_getElem? (i := 11) rfl)), (jin_39 _ (List.mem_of_getElem? (i := 12) rfl))⟩
theorem jq_7_153 : jeOK (jcn 7) 153 (1, 176, 0, 0) := ⟨_, rfl, (jin_41 _ (List.mem_of_getElem? (i := 11) rfl)), (jin_41 _ (List.mem_of_getElem? (i := 12) rfl)), (jin_41 _ (List.mem_of_getElem? (i := 13) rfl))⟩
theorem jq_7_157 : jeOK (jcn 7) 157 (1, 183, 0, 0) := ⟨_, rfl, (jin_43 _ (List.mem_of_getElem? (i := 3) rfl)), (jin_43 _ (List.mem_of_getElem? (i := 4) rfl)), (jin_43 _ (List.mem_of_getElem? (i := 5) rfl))⟩
theorem jq_7_161 : jeOK (jcn 7) 161 (1, 185, 0, 0) := ⟨_, rfl, (jin_43 _ (List.mem_of_getElem? (i := 10) rfl)), (jin_43 _ (List.mem_of_getElem? (i := 11) rfl)), (jin_43 _ (List.mem_of_getElem? (i := 12) rfl))⟩
theorem jq_7_164 : jeOK (jcn 7) 164 (1, 62, 0, 0) := ⟨_, rfl, (jin_41 _ (List.mem_of_getElem? (i := 15) rfl)), (jin_19 _ (List.mem_of_getElem? (i := 10) rfl)), (jin_19 _ (List.mem_of_getElem? (i := 11) rfl))⟩
theorem jq_7_167 : jeOK (jcn 7) 167 (1, 177, 0, 0) := ⟨_, rfl, (jin_41 _ (List.mem_of_getElem? (i := 17) rfl)), (jin_41 _ (List.mem_of_getElem? (i := 18) rfl)), (jin_41 _ (List.mem_of_getElem? (i := 19) rfl))⟩
theorem jq_7_171 : jeOK (jcn 7) 171 (0, 7, 12, 0) := ⟨_, rfl, by decide, (jin_39 _ (List.mem_of_getElem? (i := 9) rfl))⟩
theorem jq_7_174 : jeOK (jcn 7) 174 (1, 168, 0, 0) := ⟨_, rfl, (jin_39 _ (List.mem_of_getElem? (i := 19) rfl)), (jin_39 _ (List.mem_of_getElem? (i := 20) rfl)), (jin_39 _ (List.mem_of_getElem? (i := 21) rfl))⟩
theorem jq_7_177 : jeOK (jcn 7) 177 (1, 169, 0, 0) := ⟨_, rfl, (jin_39 _ (List.mem_of_getElem? (i := 23) rfl)), (jin_40 _ (List.mem_of_getElem? (i := 0) rfl)), (jin_40 _ (List.mem_of_getElem? (i := 1) rfl))⟩
theorem jq_7_181 : jeOK (jcn 7) 181 (1, 157, 0, 0) := ⟨_, rfl, (jin_41 _ (List.mem_of_getElem? (i := 10) rfl)), (jin_37 _ (List.mem_of_getElem? (i := 2) rfl)), (jin_37 _ (List.mem_of_getElem? (i := 3) rfl))⟩
theorem jq_7_185 : jeOK (jcn 7) 185 (0, 2, 10, 0) := ⟨_, rfl, by decide, (jin_39 _ (List.mem_of_getElem? (i := 18) rfl))⟩
theorem jq_7_188 : jeOK (jcn 7) 188 (1, 178, 0, 0) := ⟨_, rfl, (jin_42 _ (List.mem_of_getElem? (i := 4) rfl)), (jin_42 _ (List.mem_of_getElem? (i := 5) rfl)), (jin_42 _ (List.mem_of_getElem? (i := 6) rfl))⟩
theorem jq_7_192 : jeOK (jcn 7) 192 (1, 179, 0, 0) := ⟨_, rfl, (jin_42 _ (List.mem_of_getElem? (i := 11) rfl)), (jin_42 _ (List.mem_of_getElem? (i := 12) rfl)), (jin_42 _ (List.mem_of_getElem? (i := 13) rfl))⟩
theorem jq_7_195 : jeOK (jcn 7) 195 (0, 2, 2, 0) := ⟨_, rfl, by decide, (jin_40 _ (List.mem_of_getElem? (i := 3) rfl))⟩
theorem jq_7_199 : jeOK (jcn 7) 199 (1, 170, 0, 0) := ⟨_, rfl, (jin_40 _ (List.mem_of_getElem? (i := 4) rfl)), (jin_40 _ (List.mem_of_getElem? (i := 5) rfl)), (jin_40 _ (List.mem_of_getElem? (i := 6) rfl))⟩
theorem jq_7_205 : jeOK (jcn 7) 205 (1, 189, 0, 0) := ⟨_, rfl, (jin_44 _ (List.mem_of_getElem? (i := 4) rfl)), (jin_44 _ (List.mem_of_getElem? (i := 5) rfl)), (jin_44 _ (List.mem_of_getElem? (i := 6) rfl))⟩
theorem jq_7_208 : jeOK (jcn 7) 208 (1, 190, 0, 0) := ⟨_, rfl, (jin_44 _ (List.mem_of_getElem? (i := 8) rfl)), (jin_44 _ (List.mem_of_getElem? (i := 9) rfl)), (jin_44 _ (List.mem_of_getElem? (i := 10) rfl))⟩
theorem jq_7_211 : jeOK (jcn 7) 211 (0, 10, 2, 0) := ⟨_, rfl, by decide, (jin_44 _ (List.mem_of_getElem? (i := 2) rfl))⟩
theorem jq_7_214 : jeOK (jcn 7) 214 (2, 191, 0, 0) := ⟨_, rfl, (jin_44 _ (List.mem_of_getElem? (i := 12) rfl)), (jin_44 _ (List.mem_of_getElem? (i := 13) rfl))⟩
theorem jq_7_218 : jeOK (jcn 7) 218 (1, 193, 0, 0) := ⟨_, rfl, (jin_44 _ (List.mem_of_getElem? (i := 18) rfl)), (jin_44 _ (List.mem_of_getElem? (i := 19) rfl)), (jin_44 _ (List.mem_of_getElem? (i := 20) rfl))⟩
theorem jq_7_222 : jeOK (jcn 7) 222 (0, 10, 1, 0) := ⟨_, rfl, by decide, (jin_44 _ (List.mem_of_getElem? (i := 3) rfl))⟩
theorem jq_7_225 : jeOK (jcn 7) 225 (1, 194, 0, 0) := ⟨_, rfl, (jin_45 _ (List.mem_of_getElem? (i := 0) rfl)), (jin_45 _ (List.mem_of_getElem? (i := 1) rfl)), (jin_45 _ (List.mem_of_getElem? (i := 2) rfl))⟩
theorem jq_7_229 : jeOK (jcn 7) 229 (1, 173, 0, 0) := ⟨_, rfl, (jin_40 _ (List.mem_of_getElem? (i := 21) rfl)), (jin_40 _ (List.mem_of_getElem? (i := 22) rfl)), (jin_40 _ (List.mem_of_getElem? (i := 23) rfl))⟩
theorem jq_7_233 : jeOK (jcn 7) 233 (2, 192, 0, 0) := ⟨_, rfl, (jin_44 _ (List.mem_of_getElem? (i := 15) rfl)), (jin_44 _ (List.mem_of_getElem? (i := 16) rfl))⟩
theorem jq_7_238 : jeOK (jcn 7) 238 (1, 141, 0, 0) := ⟨_, rfl, (jin_44 _ (List.mem_of_getElem? (i := 23) rfl)), (jin_34 _ (List.mem_of_getElem? (i := 4) rfl)), (jin_34 _ (List.mem_of_getElem? (i := 5) rfl))⟩
theorem jq_7_243 : jeOK (jcn 7) 243 (0, 8, 1, 0) := ⟨_, rfl, by decide, (jin_44 _ (List.mem_of_getElem? (i := 22) rfl))⟩
theorem jq_7_246 : jeOK (jcn 7) 246 (1, 143, 0, 0) := ⟨_, rfl, (jin_45 _ (List.mem_of_getElem? (i := 9) rfl)), (jin_34 _ (List.mem_of_getElem? (i := 13) rfl)), (jin_34 _ (List.mem_of_getElem? (i := 14) rfl))⟩
theorem jq_7_250 : jeOK (jcn 7) 250 (1, 172, 0, 0) := ⟨_, rfl, (jin_45 _ (List.mem_of_getElem? (i := 10) rfl)), (jin_40 _ (List.mem_of_getElem? (i := 18) rfl)), (jin_40 _ (List.mem_of_getElem? (i := 19) rfl))⟩
theorem jq_7_254 : jeOK (jcn 7) 254 (1, 171, 0, 0) := ⟨_, rfl, (jin_40 _ (List.mem_of_getElem? (i := 11) rfl)), (jin_40 _ (List.mem_of_getElem? (i := 12) rfl)), (jin_40 _ (List.mem_of_getElem? (i := 13) rfl))⟩
theorem jq_7_258 : jeOK (jcn 7) 258 (1, 174, 0, 0) := ⟨_, rfl, (jin_41 _ (List.mem_of_getElem? (i := 1) rfl)), (jin_41 _ (List.mem_of_getElem? (i := 2) rfl)), (jin_41 _ (List.mem_of_getElem? (i := 3) rfl))⟩
theorem jq_7_261 : jeOK (jcn 7) 261 (1, 175, 0, 0) := ⟨_, rfl, (jin_41 _ (List.mem_of_getElem? (i := 6) rfl)), (jin_41 _ (List.mem_of_getElem? (i := 7) rfl)), (jin_41 _ (List.mem_of_getElem? (i := 8) rfl))⟩
theorem jo_7 : jall (jeOK (jcn 7)) 0 jp_7 := ⟨⟨jq_7_3, jq_7_9, jq_7_15, trivial⟩, ⟨jq_7_21, jq_7_23, jq_7_27, jq_7_30, jq_7_31, trivial⟩, ⟨jq_7_35, jq_7_38, jq_7_41, jq_7_45, trivial⟩, ⟨jq_7_48, jq_7_51, jq_7_55, jq_7_58, jq_7_62, trivial⟩, ⟨jq_7_66, jq_7_70, jq_7_74, jq_7_79, trivial⟩, ⟨jq_7_82, jq_7_85, jq_7_88, jq_7_92, jq_7_95, trivial⟩, ⟨jq_7_98, jq_7_101, jq_7_102, jq_7_105, jq_7_108, trivial⟩, ⟨jq_7_112, jq_7_115, jq_7_118, jq_7_121, jq_7_124, jq_7_127, trivial⟩, ⟨jq_7_130, jq_7_134, jq_7_137, jq_7_140, jq_7_143, trivial⟩, ⟨jq_7_146, jq_7_147, jq_7_153, jq_7_157, trivial⟩, ⟨jq_7_161, jq_7_164, jq_7_167, jq_7_171, jq_7_174, trivial⟩, ⟨jq_7_177, jq_7_181, jq_7_185, jq_7_188, trivial⟩, ⟨jq_7_192, jq_7_195, jq_7_199, jq_7_205, trivial⟩, ⟨jq_7_208, jq_7_211, jq_7_214, jq_7_218, jq_7_222, trivial⟩, ⟨jq_7_225, jq_7_229, jq_7_233, jq_7_238, trivial⟩, ⟨jq_7_243, jq_7_246, jq_7_250, jq_7_254, trivial⟩, ⟨jq_7_258, jq_7_261, trivial⟩, trivial⟩
theorem jq_8_3 : jeOK (jcn 8) 3 (5, 0, 0, 0) := (jin_9 _ (List.mem_of_getElem? (i := 3) rfl))
theorem jq_8_9 : jeOK (jcn 8) 9 (0, 8, 0, 0) := ⟨_, rfl, by decide, (jin_9 _ (List.mem_of_getElem? (i := 4) rfl))⟩
theorem jq_8_15 : jeOK (jcn 8) 15 (0, 8, 1, 0) := ⟨_, rfl, by decide, (jin_9 _ (List.mem_of_getElem? (i := 5) rfl))⟩
theorem jq_8_19 : jeOK (jcn 8) 19 (0, 8, 2, 0) := ⟨_, rfl, by decide, (jin_9 _ (List.mem_of_getElem? (i := 6) rfl))⟩
theorem jq_8_22 : jeOK (jcn 8) 22 (1, 25, 0, 0) := ⟨_, rfl, (jin_9 _ (List.mem_of_getElem? (i := 9) rfl)), (jin_9 _ (List.mem_of_getElem? (i := 10) rfl)), (jin_9 _ (List.mem_of_getElem? (i := 11) rfl))⟩
theorem jq_8_28 : jeOK (jcn 8) 28 (0, 8, 3, 0) := ⟨_, rfl, by decide, (jin_9 _ (List.mem_of_getElem? (i := 7) rfl))⟩
theorem jq_8_32 : jeOK (jcn 8) 32 (0, 8, 4, 0) := ⟨_, rfl, by decide, (jin_9 _ (List.mem_of_getElem? (i := 8) rfl))⟩
theorem jq_8_35 : jeOK (jcn 8) 35 (2, 180, 0, 0) := ⟨_, rfl, (jin_60 _ (List.mem_of_getElem? (i := 13) rfl)), (jin_42 _ (List.mem_of_getElem? (i := 16) rfl))⟩
theorem jq_8_41 : jeOK (jcn 8) 41 (2, 4, 0, 0) := ⟨_, rfl, (jin_30 _ (List.mem_of_getElem? (i := 22) rfl)), (jin_3 _ (List.mem_of_getElem? (i := 19) rfl))⟩
theorem jq_8_44 : jeOK (jcn 8) 44 (2, 142, 0, 0) := ⟨_, rfl, (jin_34 _ (List.mem_of_getElem? (i := 7) rfl)), (jin_34 _ (List.mem_of_getElem? (i := 8) rfl))⟩
theorem jq_8_47 : jeOK (jcn 8) 47 (2, 116, 0, 0) := ⟨_, rfl, (jin_34 _ (List.mem_of_getElem? (i := 11) rfl)), (jin_29 _ (List.mem_of_getElem? (i := 13) rfl))⟩
theorem jq_8_50 : jeOK (jcn 8) 50 (7, 0, 0, 1000000) := (jin_30 _ (List.mem_of_getElem? (i := 23) rfl))
theorem jq_8_51 : jeOK (jcn 8) 51 (0, 8, 5, 0) := ⟨_, rfl, by decide, (jin_31 _ (List.mem_of_getElem? (i := 0) rfl))⟩
theorem jq_8_54 : jeOK (jcn 8) 54 (0, 8, 6, 0) := ⟨_, rfl, by decide, (jin_31 _ (List.mem_of_getElem? (i := 1) rfl))⟩
theorem jq_8_57 : jeOK (jcn 8) 57 (0, 8, 7, 0) := ⟨_, rfl, by decide, (jin_31 _ (List.mem_of_getElem? (i := 2) rfl))⟩
theorem jq_8_60 : jeOK (jcn 8) 60 (1, 126, 0, 0) := ⟨_, rfl, (jin_31 _ (List.mem_of_getElem? (i := 6) rfl)), (jin_31 _ (List.mem_of_getElem? (i := 7) rfl)), (jin_31 _ (List.mem_of_getElem? (i := 8) rfl))⟩
theorem jq_8_64 : jeOK (jcn 8) 64 (1, 117, 0, 0) := ⟨_, rfl, (jin_31 _ (List.mem_of_getElem? (i := 10) rfl)), (jin_29 _ (List.mem_of_getElem? (i := 16) rfl)), (jin_29 _ (List.mem_of_getElem? (i := 17) rfl))⟩
theorem jq_8_67 : jeOK (jcn 8) 67 (2, 125, 0, 0) := ⟨_, rfl, (jin_31 _ (List.mem_of_getElem? (i := 3) rfl)), (jin_31 _ (List.mem_of_getElem? (i := 4) rfl))⟩
theorem jq_8_70 : jeOK (jcn 8) 70 (1, 128, 0, 0) := ⟨_, rfl, (jin_31 _ (List.mem_of_getElem? (i := 15) rfl)), (jin_31 _ (List.mem_of_getElem? (i := 16) rfl)), (jin_31 _ (List.mem_of_getElem? (i := 17) rfl))⟩
theorem jq_8_73 : jeOK (jcn 8) 73 (2, 129, 0, 0) := ⟨_, rfl, (jin_31 _ (List.mem_of_getElem? (i := 19) rfl)), (jin_31 _ (List.mem_of_getElem? (i := 20) rfl))⟩
theorem jq_8_76 : jeOK (jcn 8) 76 (2, 130, 0, 0) := ⟨_, rfl, (jin_31 _ (List.mem_of_getElem? (i := 22) rfl)), (jin_31 _ (List.mem_of_getElem? (i := 23) rfl))⟩
theorem jq_8_79 : jeOK (jcn 8) 79 (11, 0, 0, 0) := (jin_56 _ (List.mem_of_getElem? (i := 11) rfl))
theorem jq_8_82 : jeOK (jcn 8) 82 (1, 251, 0, 0) := ⟨_, rfl, (jin_56 _ (List.mem_of_getElem? (i := 12) rfl)), (jin_56 _ (List.mem_of_getElem? (i := 13) rfl)), (jin_56 _ (List.mem_of_getElem? (i := 14) rfl))⟩
theorem jq_8_86 : jeOK (jcn 8) 86 (1, 252, 0, 0) := ⟨_, rfl, (jin_56 _ (List.mem_of_getElem? (i := 16) rfl)), (jin_56 _ (List.mem_of_getElem? (i := 17) rfl)), (jin_56 _ (List.mem_of_getElem? (i := 18) rfl))⟩
theorem jq_8_89 : jeOK (jcn 8) 89 (1, 250, 0, 0) := ⟨_, rfl, (jin_57 _ (List.mem_of_getElem? (i := 19) rfl)), (jin_56 _ (List.mem_of_getElem? (i := 8) rfl)), (jin_56 _ (List.mem_of_getElem? (i := 9) rfl))⟩
theorem jo_8 : jall (jeOK (jcn 8)) 0 jp_8 := ⟨⟨jq_8_3, jq_8_9, jq_8_15, trivial⟩, ⟨jq_8_19, jq_8_22, jq_8_28, trivial⟩, ⟨jq_8_32, jq_8_35, jq_8_41, jq_8_44, jq_8_47, trivial⟩, ⟨jq_8_50, jq_8_51, jq_8_54, jq_8_57, jq_8_60, trivial⟩, ⟨jq_8_64, jq_8_67, jq_8_70, jq_8_73, jq_8_76, jq_8_79, trivial⟩, ⟨jq_8_82, jq_8_86, jq_8_89, trivial⟩, trivial⟩
theorem jq_9_3 : jeOK (jcn 9) 3 (5, 0, 0, 0) := (jin_4 _ (List.mem_of_getElem? (i := 8) rfl))
theorem jq_9_11 : jeOK (jcn 9) 11 (0, 9, 0, 0) := ⟨_, rfl, by decide, (jin_4 _ (List.mem_of_getElem? (i := 9) rfl))⟩
theorem jq_9_15 : jeOK (jcn 9) 15 (0, 9, 2, 0) := ⟨_, rfl, by decide, (jin_4 _ (List.mem_of_getElem? (i := 11) rfl))⟩
theorem jq_9_19 : jeOK (jcn 9) 19 (9, 0, 0, 0) := ⟨rfl, _, rfl⟩
theorem jq_9_21 : jeOK (jcn 9) 21 (2, 7, 0, 0) := ⟨_, rfl, (jin_4 _ (List.mem_of_getElem? (i := 12) rfl)), (jin_4 _ (List.mem_of_getElem? (i := 13) rfl))⟩
theorem jq_9_25 : jeOK (jcn 9) 25 (9, 1, 0, 0) := ⟨rfl, _, rfl⟩
theorem jq_9_27 : jeOK (jcn 9) 27 (9, 2, 0, 0) := ⟨rfl, _, rfl⟩
theorem jq_9_29 : jeOK (jcn 9) 29 (9, 3, 0, 0) := ⟨rfl, _, rfl⟩
theorem jq_9_31 : jeOK (jcn 9) 31 (9, 4, 0, 0) := ⟨rfl, _, rfl⟩
theorem jq_9_33 : jeOK (jcn 9) 33 (9, 5, 0, 0) := ⟨rfl, _, rfl⟩
theorem jq_9_35 : jeOK (jcn 9) 35 (9, 6, 0, 0) := ⟨rfl, _, rfl⟩
theorem jq_9_37 : jeOK (jcn 9) 37 (9, 7, 0, 0) := ⟨rfl, _, rfl⟩
theorem jq_9_39 : jeOK (jcn 9) 39 (9, 8, 0, 0) := ⟨rfl, _, rfl⟩
theorem jq_9_41 : jeOK (jcn 9) 41 (9, 9, 0, 0) := ⟨rfl, _, rfl⟩
theorem jq_9_43 : jeOK (jcn 9) 43 (9, 10, 0, 0) := ⟨rfl, _, rfl⟩
theorem jq_9_45 : jeOK (jcn 9) 45 (1, 8, 0, 0) := ⟨_, rfl, (jin_4 _ (List.mem_of_getElem? (i := 15) rfl)), (jin_4 _ (List.mem_of_getElem? (i := 16) rfl)), (jin_4 _ (List.mem_of_getElem? (i := 17) rfl))⟩
theorem jq_9_51 : jeOK (jcn 9) 51 (1, 10, 0, 0) := ⟨_, rfl, (jin_5 _ (List.mem_of_getElem? (i := 3) rfl)), (jin_5 _ (List.mem_of_getElem? (i := 4) rfl)), (jin_5 _ (List.mem_of_getElem? (i := 5) rfl))⟩
theorem jq_9_55 : jeOK (jcn 9) 55 (2, 19, 0, 0) := ⟨_, rfl, (jin_6 _ (List.mem_of_getElem? (i := 16) rfl)), (jin_6 _ (List.mem_of_getElem? (i := 17) rfl))⟩
theorem jq_9_59 : jeOK (jcn 9) 59 (8, 0, 0, 27) := (jin_6 _ (List.mem_of_getElem? (i := 19) rfl))
theorem jq_9_61 : jeOK (jcn 9) 61 (0, 9, 1, 0) := ⟨_, rfl, by decide, (jin_13 _ (List.mem_of_getElem? (i := 9) rfl))⟩
theorem jq_9_65 : jeOK (jcn 9) 65 (0, 9, 3, 0) := ⟨_, rfl, by decide, (jin_15 _ (List.mem_of_getElem? (i := 3) rfl))⟩
theorem jq_9_68 : jeOK (jcn 9) 68 (1, 40, 0, 0) := ⟨_, rfl, (jin_15 _ (List.mem_of_getElem? (i := 9) rfl)), (jin_15 _ (List.mem_of_getElem? (i := 10) rfl)), (jin_15 _ (List.mem_of_getElem? (i := 11) rfl))⟩
theorem jq_9_72 : jeOK (jcn 9) 72 (2, 41, 0, 0) := ⟨_, rfl, (jin_15 _ (List.mem_of_getElem? (i := 13) rfl)), (jin_15 _ (List.mem_of_getElem? (i := 14) rfl))⟩
theorem jq_9_76 : jeOK (jcn 9) 76 (0, 9, 4, 0) := ⟨_, rfl, by decide, (jin_15 _ (List.mem_of_getElem? (i := 8) rfl))⟩
theorem jq_9_79 : jeOK (jcn 9) 79 (2, 42, 0, 0) := ⟨_, rfl, (jin_15 _ (List.mem_of_getElem? (i := 16) rfl)), (jin_15 _ (List.mem_of_getElem? (i := 17) rfl))⟩
theorem jq_9_82 : jeOK (jcn 9) 82 (1, 43, 0, 0) := ⟨_, rfl, (jin_15 _ (List.mem_of_getElem? (i := 19) rfl)), (jin_15 _ (List.mem_of_getElem? (i := 20) rfl)), (jin_15 _ (List.mem_of_getElem? (i := 21) rfl))⟩
theorem jq_9_85 : jeOK (jcn 9) 85 (2, 44, 0, 0) := ⟨_, rfl, (jin_16 _ (List.mem_of_getElem? (i := 0) rfl)), (jin_16 _ (List.mem_of_getElem? (i := 1) rfl))⟩
theorem jq_9_88 : jeOK (jcn 9) 88 (1, 45, 0, 0) := ⟨_, rfl, (jin_16 _ (List.mem_of_getElem? (i := 3) rfl)), (jin_16 _ (List.mem_of_getElem? (i := 4) rfl)), (jin_16 _ (List.mem_of_getElem? (i := 5) rfl))⟩
theorem jq_9_91 : jeOK (jcn 9) 91 (1, 49, 0, 0) := ⟨_, rfl, (jin_16 _ (List.mem_of_getElem? (i := 23) rfl)), (jin_17 _ (List.mem_of_getElem? (i := 0) rfl)), (jin_17 _ (List.mem_of_getElem? (i := 1) rfl))⟩
theorem jq_9_94 : jeOK (jcn 9) 94 (0, 9, 5, 0) := ⟨_, rfl, by decide, (jin_15 _ (List.mem_of_getElem? (i := 23) rfl))⟩
theorem jq_9_98 : jeOK (jcn 9) 98 (1, 46, 0, 0) := ⟨_, rfl, (jin_16 _ (List.mem_of_getElem? (i := 8) rfl)), (jin_16 _ (List.mem_of_getElem? (i := 9) rfl)), (jin_16 _ (List.mem_of_getElem? (i := 10) rfl))⟩
theorem jq_9_101 : jeOK (jcn 9) 101 (0, 9, 9, 0) := ⟨_, rfl, by decide, (jin_16 _ (List.mem_of_getElem? (i := 7) rfl))⟩
theorem jq_9_105 : jeOK (jcn 9) 105 (1, 47, 0, 0) := ⟨_, rfl, (jin_16 _ (List.mem_of_getElem? (i := 12) rfl)), (jin_16 _ (List.mem_of_getElem? (i := 13) rfl)), (jin_16 _ (List.mem_of_getElem? (i := 14) rfl))⟩
theorem jq_9_109 : jeOK (jcn 9) 109 (1, 48, 0, 0) := ⟨_, rfl, (jin_16 _ (List.mem_of_getElem? (i := 17) rfl)), (jin_16 _ (List.mem_of_getElem? (i := 18) rfl)), (jin_16 _ (List.mem_of_getElem? (i := 19) rfl))⟩
theorem jq_9_113 : jeOK (jcn 9) 113 (0, 9, 8, 0) := ⟨_, rfl, by decide, (jin_16 _ (List.mem_of_getElem? (i := 16) rfl))⟩
theorem jq_9_116 : jeOK (jcn 9) 116 (0, 9, 6, 0) := ⟨_, rfl, by decide, (jin_16 _ (List.mem_of_getElem? (i := 21) rfl))⟩
theorem jq_9_119 : jeOK (jcn 9) 119 (0, 9, 7, 0) := ⟨_, rfl, by decide, (jin_16 _ (List.mem_of_getElem? (i := 22) rfl))⟩
theorem jo_9 : jall (jeOK (jcn 9)) 0 jp_9 := ⟨⟨jq_9_3, jq_9_11, jq_9_15, trivial⟩, ⟨jq_9_19, jq_9_21, jq_9_25, jq_9_27, jq_9_29, jq_9_31, trivial⟩, ⟨jq_9_33, jq_9_35, jq_9_37, jq_9_39, jq_9_41, jq_9_43, jq_9_45, trivial⟩, ⟨jq_9_51, jq_9_55, jq_9_59, jq_9_61, trivial⟩, ⟨jq_9_65, jq_9_68, jq_9_72, jq_9_76, jq_9_79, trivial⟩, ⟨jq_9_82, jq_9_85, jq_9_88, jq_9_91, jq_9_94, trivial⟩, ⟨jq_9_98, jq_9_101, jq_9_105, jq_9_109, trivial⟩, ⟨jq_9_113, jq_9_116, jq_9_119, trivial⟩, trivial⟩
theorem jq_10_3 : jeOK (jcn 10) 3 (5, 0, 0, 0) := (jin_8 _ (List.mem_of_getElem? (i := 6) rfl))
theorem jq_10_9 : jeOK (jcn 10) 9 (0, 10, 0, 0) := ⟨_, rfl, by decide, (jin_41 _ (List.mem_of_getElem? (i := 21) rfl))⟩
theorem jq_10_15 : jeOK (jcn 10) 15 (0, 10, 1, 0) := ⟨_, rfl, by decide, (jin_41 _ (List.mem_of_getElem? (i := 22) rfl))⟩
theorem jq_10_19 : jeOK (jcn 10) 19 (0, 10, 2, 0) := ⟨_, rfl, by decide, (jin_41 _ (List.mem_of_getElem? (i := 23) rfl))⟩
theorem jq_10_22 : jeOK (jcn 10) 22 (0, 10, 3, 0) := ⟨_, rfl, by decide, (jin_42 _ (List.mem_of_getElem? (i := 0) rfl))⟩
theorem jq_10_25 : jeOK (jcn 10) 25 (0, 10, 4, 0) := ⟨_, rfl, by decide, (jin_42 _ (List.mem_of_getElem? (i := 1) rfl))⟩
theorem jq_10_28 : jeOK (jcn 10) 28 (0, 10, 5, 0) := ⟨_, rfl, by decide, (jin_42 _ (List.mem_of_getElem? (i := 2) rfl))⟩
theorem jq_10_31 : jeOK (jcn 10) 31 (0, 10, 6, 0) := ⟨_, rfl, by decide, (jin_42 _ (List.mem_of_getElem? (i := 3) rfl))⟩
theorem jq_10_34 : jeOK (jcn 10) 34 (1, 128, 0, 0) := ⟨_, rfl, (jin_42 _ (List.mem_of_getElem? (i := 8) rfl)), (jin_31 _ (List.mem_of_getElem? (i := 16) rfl)), (jin_31 _ (List.mem_of_getElem? (i := 17) rfl))⟩
theorem jq_10_40 : jeOK (jcn 10) 40 (2, 130, 0, 0) := ⟨_, rfl, (jin_42 _ (List.mem_of_getElem? (i := 9) rfl)), (jin_31 _ (List.mem_of_getElem? (i := 23) rfl))⟩
theorem jq_10_43 : jeOK (jcn 10) 43 (2, 129, 0, 0) := ⟨_, rfl, (jin_42 _ (List.mem_of_getElem? (i := 10) rfl)), (jin_31 _ (List.mem_of_getElem? (i := 20) rfl))⟩
theorem jq_10_46 : jeOK (jcn 10) 46 (2, 180, 0, 0) := ⟨_, rfl, (jin_42 _ (List.mem_of_getElem? (i := 15) rfl)), (jin_42 _ (List.mem_of_getElem? (i := 16) rfl))⟩
theorem jq_10_52 : jeOK (jcn 10) 52 (2, 4, 0, 0) := ⟨_, rfl, (jin_42 _ (List.mem_of_getElem? (i := 18) rfl)), (jin_3 _ (List.mem_of_getElem? (i := 19) rfl))⟩
theorem jq_10_55 : jeOK (jcn 10) 55 (1, 195, 0, 0) := ⟨_, rfl, (jin_45 _ (List.mem_of_getElem? (i := 4) rfl)), (jin_45 _ (List.mem_of_getElem? (i := 5) rfl)), (jin_45 _ (List.mem_of_getElem? (i := 6) rfl))⟩
theorem jq_10_60 : jeOK (jcn 10) 60 (2, 184, 0, 0) := ⟨_, rfl, (jin_43 _ (List.mem_of_getElem? (i := 7) rfl)), (jin_43 _ (List.mem_of_getElem? (i := 8) rfl))⟩
theorem jq_10_64 : jeOK (jcn 10) 64 (1, 186, 0, 0) := ⟨_, rfl, (jin_43 _ (List.mem_of_getElem? (i := 14) rfl)), (jin_43 _ (List.mem_of_getElem? (i := 15) rfl)), (jin_43 _ (List.mem_of_getElem? (i := 16) rfl))⟩
theorem jo_10 : jall (jeOK (jcn 10)) 0 jp_10 := ⟨⟨jq_10_3, jq_10_9, jq_10_15, trivial⟩, ⟨jq_10_19, jq_10_22, jq_10_25, jq_10_28, jq_10_31, trivial⟩, ⟨jq_10_34, jq_10_40, jq_10_43, jq_10_46, trivial⟩, ⟨jq_10_52, jq_10_55, jq_10_60, trivial⟩, ⟨jq_10_64, trivial⟩, trivial⟩
theorem jq_11_1 : jeOK (jcn 11) 1 (5, 0, 0, 0) := (jin_1 _ (List.mem_of_getElem? (i := 9) rfl))
theorem jq_11_7 : jeOK (jcn 11) 7 (10, 3, 0, 0) := ⟨_, rfl, (jin_1 _ (List.mem_of_getElem? (i := 12) rfl))⟩
theorem jq_11_9 : jeOK (jcn 11) 9 (3, 1, 0, 0) := ⟨_, rfl, (jin_3 _ (List.mem_of_getElem? (i := 0) rfl)), (jin_3 _ (List.mem_of_getElem? (i := 1) rfl)), rfl, rfl⟩
theorem jq_11_10 : jeOK (jcn 11) 10 (0, 11, 0, 0) := ⟨_, rfl, by decide, (jin_1 _ (List.mem_of_getElem? (i := 15) rfl))⟩
theorem jq_11_16 : jeOK (jcn 11) 16 (10, 6, 0, 0) := ⟨_, rfl, (jin_1 _ (List.mem_of_getElem? (i := 16) rfl))⟩
theorem jq_11_18 : jeOK (jcn 11) 18 (0, 11, 1, 0) := ⟨_, rfl, by decide, (jin_1 _ (List.mem_of_getElem? (i := 17) rfl))⟩
theorem jq_11_22 : jeOK (jcn 11) 22 (10, 2, 0, 0) := ⟨_, rfl, (jin_1 _ (List.mem_of_getElem? (i := 18) rfl))⟩
theorem jq_11_24 : jeOK (jcn 11) 24 (3, 5, 0, 0) := ⟨_, rfl, (jin_3 _ (List.mem_of_getElem? (i := 22) rfl)), (jin_3 _ (List.mem_of_getElem? (i := 23) rfl)), rfl, rfl⟩
theorem jq_11_27 : jeOK (jcn 11) 27 (0, 11, 3, 0) := ⟨_, rfl, by decide, (jin_1 _ (List.mem_of_getElem? (i := 21) rfl))⟩
theorem jq_11_31 : jeOK (jcn 11) 31 (10, 9, 0, 0) := ⟨_, rfl, (jin_1 _ (List.mem_of_getElem? (i := 22) rfl))⟩
theorem jq_11_33 : jeOK (jcn 11) 33 (3, 6, 0, 0) := ⟨_, rfl, (jin_4 _ (List.mem_of_getElem? (i := 5) rfl)), (jin_4 _ (List.mem_of_getElem? (i := 6) rfl)), rfl, rfl⟩
theorem jq_11_34 : jeOK (jcn 11) 34 (0, 11, 4, 0) := ⟨_, rfl, by decide, (jin_2 _ (List.mem_of_getElem? (i := 1) rfl))⟩
theorem jq_11_38 : jeOK (jcn 11) 38 (10, 5, 0, 0) := ⟨_, rfl, (jin_2 _ (List.mem_of_getElem? (i := 2) rfl))⟩
theorem jq_11_40 : jeOK (jcn 11) 40 (3, 20, 0, 0) := ⟨_, rfl, (jin_6 _ (List.mem_of_getElem? (i := 20) rfl)), (jin_6 _ (List.mem_of_getElem? (i := 21) rfl)), rfl, rfl⟩
theorem jq_11_41 : jeOK (jcn 11) 41 (0, 11, 5, 0) := ⟨_, rfl, by decide, (jin_2 _ (List.mem_of_getElem? (i := 5) rfl))⟩
theorem jq_11_45 : jeOK (jcn 11) 45 (0, 11, 6, 0) := ⟨_, rfl, by decide, (jin_2 _ (List.mem_of_getElem? (i := 6) rfl))⟩
theorem jq_11_48 : jeOK (jcn 11) 48 (0, 11, 7, 0) := ⟨_, rfl, by decide, (jin_2 _ (List.mem_of_getElem? (i := 7) rfl))⟩
theorem jq_11_52 : jeOK (jcn 11) 52 (10, 7, 0, 0) := ⟨_, rfl, (jin_2 _ (List.mem_of_getElem? (i := 8) rfl))⟩
theorem jq_11_54 : jeOK (jcn 11) 54 (3, 21, 0, 0) := ⟨_, rfl, (jin_7 _ (List.mem_of_getElem? (i := 7) rfl)), (jin_7 _ (List.mem_of_getElem? (i := 8) rfl)), rfl, rfl⟩
theorem jq_11_57 : jeOK (jcn 11) 57 (0, 11, 8, 0) := ⟨_, rfl, by decide, (jin_2 _ (List.mem_of_getElem? (i := 11) rfl))⟩
theorem jq_11_61 : jeOK (jcn 11) 61 (10, 4, 0, 0) := ⟨_, rfl, (jin_2 _ (List.mem_of_getElem? (i := 12) rfl))⟩
theorem jq_11_63 : jeOK (jcn 11) 63 (3, 23, 0, 0) := ⟨_, rfl, (jin_8 _ (List.mem_of_getElem? (i := 7) rfl)), (jin_8 _ (List.mem_of_getElem? (i := 8) rfl)), rfl, rfl⟩
theorem jq_11_66 : jeOK (jcn 11) 66 (0, 11, 9, 0) := ⟨_, rfl, by decide, (jin_2 _ (List.mem_of_getElem? (i := 15) rfl))⟩
theorem jq_11_70 : jeOK (jcn 11) 70 (10, 1, 0, 0) := ⟨_, rfl, (jin_2 _ (List.mem_of_getElem? (i := 16) rfl))⟩
theorem jq_11_72 : jeOK (jcn 11) 72 (3, 26, 0, 0) := ⟨_, rfl, (jin_9 _ (List.mem_of_getElem? (i := 13) rfl)), (jin_9 _ (List.mem_of_getElem? (i := 14) rfl)), rfl, rfl⟩
theorem jq_11_73 : jeOK (jcn 11) 73 (0, 11, 10, 0) := ⟨_, rfl, by decide, (jin_2 _ (List.mem_of_getElem? (i := 19) rfl))⟩
theorem jq_11_77 : jeOK (jcn 11) 77 (10, 0, 0, 0) := ⟨_, rfl, (jin_2 _ (List.mem_of_getElem? (i := 20) rfl))⟩
theorem jq_11_79 : jeOK (jcn 11) 79 (3, 27, 0, 0) := ⟨_, rfl, (jin_9 _ (List.mem_of_getElem? (i := 21) rfl)), (jin_9 _ (List.mem_of_getElem? (i := 22) rfl)), rfl, rfl⟩
theorem jq_11_80 : jeOK (jcn 11) 80 (0, 11, 11, 0) := ⟨_, rfl, by decide, (jin_2 _ (List.mem_of_getElem? (i := 23) rfl))⟩
theorem jq_11_84 : jeOK (jcn 11) 84 (1, 30, 0, 0) := ⟨_, rfl, (jin_13 _ (List.mem_of_getElem? (i := 5) rfl)), (jin_13 _ (List.mem_of_getElem? (i := 6) rfl)), (jin_13 _ (List.mem_of_getElem? (i := 7) rfl))⟩
theorem jq_11_88 : jeOK (jcn 11) 88 (1, 31, 0, 0) := ⟨_, rfl, (jin_13 _ (List.mem_of_getElem? (i := 10) rfl)), (jin_13 _ (List.mem_of_getElem? (i := 11) rfl)), (jin_13 _ (List.mem_of_getElem? (i := 12) rfl))⟩
theorem jq_11_92 : jeOK (jcn 11) 92 (0, 9, 1, 0) := ⟨_, rfl, by decide, (jin_13 _ (List.mem_of_getElem? (i := 4) rfl))⟩
theorem jq_11_95 : jeOK (jcn 11) 95 (1, 37, 0, 0) := ⟨_, rfl, (jin_14 _ (List.mem_of_getElem? (i := 13) rfl)), (jin_14 _ (List.mem_of_getElem? (i := 14) rfl)), (jin_14 _ (List.mem_of_getElem? (i := 15) rfl))⟩
theorem jq_11_99 : jeOK (jcn 11) 99 (0, 5, 11, 0) := ⟨_, rfl, by decide, (jin_14 _ (List.mem_of_getElem? (i := 11) rfl))⟩
theorem jq_11_100 : jeOK (jcn 11) 100 (0, 5, 10, 0) := ⟨_, rfl, by decide, (jin_14 _ (List.mem_of_getElem? (i := 12) rfl))⟩
theorem jq_11_103 : jeOK (jcn 11) 103 (1, 66, 0, 0) := ⟨_, rfl, (jin_20 _ (List.mem_of_getElem? (i := 1) rfl)), (jin_20 _ (List.mem_of_getElem? (i := 2) rfl)), (jin_20 _ (List.mem_of_getElem? (i := 3) rfl))⟩
theorem jq_11_106 : jeOK (jcn 11) 106 (1, 95, 0, 0) := ⟨_, rfl, (jin_25 _ (List.mem_of_getElem? (i := 15) rfl)), (jin_25 _ (List.mem_of_getElem? (i := 16) rfl)), (jin_25 _ (List.mem_of_getElem? (i := 17) rfl))⟩
theorem jq_11_110 : jeOK (jcn 11) 110 (0, 11, 2, 0) := ⟨_, rfl, by decide, (jin_26 _ (List.mem_of_getElem? (i := 6) rfl))⟩
theorem jq_11_113 : jeOK (jcn 11) 113 (3, 99, 0, 0) := ⟨_, rfl, (jin_26 _ (List.mem_of_getElem? (i := 9) rfl)), (jin_26 _ (List.mem_of_getElem? (i := 10) rfl)), rfl, rfl⟩
theorem jq_11_114 : jeOK (jcn 11) 114 (1, 102, 0, 0) := ⟨_, rfl, (jin_27 _ (List.mem_of_getElem? (i := 0) rfl)), (jin_27 _ (List.mem_of_getElem? (i := 1) rfl)), (jin_27 _ (List.mem_of_getElem? (i := 2) rfl))⟩
theorem jq_11_118 : jeOK (jcn 11) 118 (1, 103, 0, 0) := ⟨_, rfl, (jin_27 _ (List.mem_of_getElem? (i := 4) rfl)), (jin_27 _ (List.mem_of_getElem? (i := 5) rfl)), (jin_27 _ (List.mem_of_getElem? (i := 6) rfl))⟩
theorem jq_11_122 : jeOK (jcn 11) 122 (1, 107, 0, 0) := ⟨_, rfl, (jin_27 _ (List.mem_of_getElem? (i := 22) rfl)), (jin_27 _ (List.mem_of_getElem? (i := 23) rfl)), (jin_28 _ (List.mem_of_getElem? (i := 0) rfl))⟩
theorem jq_11_126 : jeOK (jcn 11) 126 (1, 109, 0, 0) := ⟨_, rfl, (jin_28 _ (List.mem_of_getElem? (i := 6) rfl)), (jin_28 _ (List.mem_of_getElem? (i := 7) rfl)), (jin_28 _ (List.mem_of_getElem? (i := 8) rfl))⟩
theorem jq_11_132 : jeOK (jcn 11) 132 (0, 2, 0, 0) := ⟨_, rfl, by decide, (jin_28 _ (List.mem_of_getElem? (i := 22) rfl))⟩
theorem jq_11_135 : jeOK (jcn 11) 135 (0, 2, 1, 0) := ⟨_, rfl, by decide, (jin_28 _ (List.mem_of_getElem? (i := 23) rfl))⟩
theorem jq_11_138 : jeOK (jcn 11) 138 (1, 115, 0, 0) := ⟨_, rfl, (jin_29 _ (List.mem_of_getElem? (i := 8) rfl)), (jin_29 _ (List.mem_of_getElem? (i := 9) rfl)), (jin_29 _ (List.mem_of_getElem? (i := 10) rfl))⟩
theorem jq_11_141 : jeOK (jcn 11) 141 (2, 116, 0, 0) := ⟨_, rfl, (jin_29 _ (List.mem_of_getElem? (i := 12) rfl)), (jin_29 _ (List.mem_of_getElem? (i := 13) rfl))⟩
theorem jq_11_145 : jeOK (jcn 11) 145 (1, 117, 0, 0) := ⟨_, rfl, (jin_29 _ (List.mem_of_getElem? (i := 15) rfl)), (jin_29 _ (List.mem_of_getElem? (i := 16) rfl)), (jin_29 _ (List.mem_of_getElem? (i := 17) rfl))⟩
theorem jq_11_148 : jeOK (jcn 11) 148 (1, 124, 0, 0) := ⟨_, rfl, (jin_30 _ (List.mem_of_getElem? (i := 18) rfl)), (jin_30 _ (List.mem_of_getElem? (i := 19) rfl)), (jin_30 _ (List.mem_of_getElem? (i := 20) rfl))⟩
theorem jq_11_151 : jeOK (jcn 11) 151 (1, 127, 0, 0) := ⟨_, rfl, (jin_31 _ (List.mem_of_getElem? (i := 11) rfl)), (jin_31 _ (List.mem_of_getElem? (i := 12) rfl)), (jin_31 _ (List.mem_of_getElem? (i := 13) rfl))⟩
theorem jq_11_154 : jeOK (jcn 11) 154 (1, 135, 0, 0) := ⟨_, rfl, (jin_32 _ (List.mem_of_getElem? (i := 17) rfl)), (jin_32 _ (List.mem_of_getElem? (i := 18) rfl)), (jin_32 _ (List.mem_of_getElem? (i := 19) rfl))⟩
theorem jq_11_158 : jeOK (jcn 11) 158 (1, 139, 0, 0) := ⟨_, rfl, (jin_33 _ (List.mem_of_getElem? (i := 19) rfl)), (jin_33 _ (List.mem_of_getElem? (i := 20) rfl)), (jin_33 _ (List.mem_of_getElem? (i := 21) rfl))⟩
theorem jq_11_162 : jeOK (jcn 11) 162 (2, 140, 0, 0) := ⟨_, rfl, (jin_34 _ (List.mem_of_getElem? (i := 0) rfl)), (jin_34 _ (List.mem_of_getElem? (i := 1) rfl))⟩
theorem jq_11_165 : jeOK (jcn 11) 165 (1, 141, 0, 0) := ⟨_, rfl, (jin_34 _ (List.mem_of_getElem? (i := 3) rfl)), (jin_34 _ (List.mem_of_getElem? (i := 4) rfl)), (jin_34 _ (List.mem_of_getElem? (i := 5) rfl))⟩
theorem jq_11_168 : jeOK (jcn 11) 168 (1, 143, 0, 0) := ⟨_, rfl, (jin_34 _ (List.mem_of_getElem? (i := 12) rfl)), (jin_34 _ (List.mem_of_getElem? (i := 13) rfl)), (jin_34 _ (List.mem_of_getElem? (i := 14) rfl))⟩
theorem jq_11_172 : jeOK (jcn 11) 172 (0, 2, 5, 0) := ⟨_, rfl, by decide, (jin_33 _ (List.mem_of_getElem? (i := 18) rfl))⟩
theorem jq_11_175 : jeOK (jcn 11) 175 (0, 8, 0, 0) := ⟨_, rfl, by decide, (jin_35 _ (List.mem_of_getElem? (i := 17) rfl))⟩
theorem jq_11_179 : jeOK (jcn 11) 179 (1, 150, 0, 0) := ⟨_, rfl, (jin_35 _ (List.mem_of_getElem? (i := 19) rfl)), (jin_35 _ (List.mem_of_getElem? (i := 20) rfl)), (jin_35 _ (List.mem_of_getElem? (i := 21) rfl))⟩
theorem jq_11_182 : jeOK (jcn 11) 182 (0, 2, 4, 0) := ⟨_, rfl, by decide, (jin_35 _ (List.mem_of_getElem? (i := 18) rfl))⟩
theorem jq_11_185 : jeOK (jcn 11) 185 (0, 2, 2, 0) := ⟨_, rfl, by decide, (jin_36 _ (List.mem_of_getElem? (i := 16) rfl))⟩
theorem jq_11_189 : jeOK (jcn 11) 189 (1, 157, 0, 0) := ⟨_, rfl, (jin_37 _ (List.mem_of_getElem? (i := 1) rfl)), (jin_37 _ (List.mem_of_getElem? (i := 2) rfl)), (jin_37 _ (List.mem_of_getElem? (i := 3) rfl))⟩
theorem jq_11_193 : jeOK (jcn 11) 193 (0, 2, 3, 0) := ⟨_, rfl, by decide, (jin_37 _ (List.mem_of_getElem? (i := 18) rfl))⟩
theorem jq_11_196 : jeOK (jcn 11) 196 (0, 2, 6, 0) := ⟨_, rfl, by decide, (jin_37 _ (List.mem_of_getElem? (i := 19) rfl))⟩
theorem jq_11_199 : jeOK (jcn 11) 199 (0, 2, 7, 0) := ⟨_, rfl, by decide, (jin_37 _ (List.mem_of_getElem? (i := 20) rfl))⟩
theorem jq_11_202 : jeOK (jcn 11) 202 (1, 163, 0, 0) := ⟨_, rfl, (jin_38 _ (List.mem_of_getElem? (i := 6) rfl)), (jin_38 _ (List.mem_of_getElem? (i := 7) rfl)), (jin_38 _ (List.mem_of_getElem? (i := 8) rfl))⟩
theorem jq_11_206 : jeOK (jcn 11) 206 (0, 2, 8, 0) := ⟨_, rfl, by decide, (jin_38 _ (List.mem_of_getElem? (i := 5) rfl))⟩
theorem jq_11_209 : jeOK (jcn 11) 209 (0, 7, 17, 0) := ⟨_, rfl, by decide, (jin_49 _ (List.mem_of_getElem? (i := 12) rfl))⟩
theorem jq_11_212 : jeOK (jcn 11) 212 (0, 7, 18, 0) := ⟨_, rfl, by decide, (jin_49 _ (List.mem_of_getElem? (i := 21) rfl))⟩
theorem jq_11_215 : jeOK (jcn 11) 215 (0, 7, 19, 0) := ⟨_, rfl, by decide, (jin_50 _ (List.mem_of_getElem? (i := 6) rfl))⟩
theorem jq_11_218 : jeOK (jcn 11) 218 (0, 5, 6, 0) := ⟨_, rfl, by decide, (jin_50 _ (List.mem_of_getElem? (i := 15) rfl))⟩
theorem jq_11_221 : jeOK (jcn 11) 221 (1, 224, 0, 0) := ⟨_, rfl, (jin_50 _ (List.mem_of_getElem? (i := 16) rfl)), (jin_50 _ (List.mem_of_getElem? (i := 17) rfl)), (jin_50 _ (List.mem_of_getElem? (i := 18) rfl))⟩
theorem jq_11_224 : jeOK (jcn 11) 224 (1, 228, 0, 0) := ⟨_, rfl, (jin_51 _ (List.mem_of_getElem? (i := 8) rfl)), (jin_51 _ (List.mem_of_getElem? (i := 9) rfl)), (jin_51 _ (List.mem_of_getElem? (i := 10) rfl))⟩
theorem jq_11_228 : jeOK (jcn 11) 228 (1, 231, 0, 0) := ⟨_, rfl, (jin_51 _ (List.mem_of_getElem? (i := 23) rfl)), (jin_52 _ (List.mem_of_getElem? (i := 0) rfl)), (jin_52 _ (List.mem_of_getElem? (i := 1) rfl))⟩
theorem jq_11_232 : jeOK (jcn 11) 232 (0, 4, 3, 0) := ⟨_, rfl, by decide, (jin_52 _ (List.mem_of_getElem? (i := 11) rfl))⟩
theorem jq_11_235 : jeOK (jcn 11) 235 (1, 234, 0, 0) := ⟨_, rfl, (jin_52 _ (List.mem_of_getElem? (i := 15) rfl)), (jin_52 _ (List.mem_of_getElem? (i := 16) rfl)), (jin_52 _ (List.mem_of_getElem? (i := 17) rfl))⟩
theorem jq_11_238 : jeOK (jcn 11) 238 (0, 4, 10, 0) := ⟨_, rfl, by decide, (jin_52 _ (List.mem_of_getElem? (i := 12) rfl))⟩
theorem jq_11_241 : jeOK (jcn 11) 241 (0, 4, 11, 0) := ⟨_, rfl, by decide, (jin_52 _ (List.mem_of_getElem? (i := 13) rfl))⟩
theorem jq_11_244 : jeOK (jcn 11) 244 (0, 4, 12, 0) := ⟨_, rfl, by decide, (jin_52 _ (List.mem_of_getElem? (i := 14) rfl))⟩
theorem jq_11_247 : jeOK (jcn 11) 247 (1, 246, 0, 0) := ⟨_, rfl, (jin_55 _ (List.mem_of_getElem? (i := 14) rfl)), (jin_55 _ (List.mem_of_getElem? (i := 15) rfl)), (jin_55 _ (List.mem_of_getElem? (i := 16) rfl))⟩
theorem jq_11_250 : jeOK (jcn 11) 250 (2, 249, 0, 0) := ⟨_, rfl, (jin_56 _ (List.mem_of_getElem? (i := 4) rfl)), (jin_56 _ (List.mem_of_getElem? (i := 5) rfl))⟩
theorem jq_11_253 : jeOK (jcn 11) 253 (0, 8, 1, 0) := ⟨_, rfl, by decide, (jin_56 _ (List.mem_of_getElem? (i := 3) rfl))⟩
theorem jq_11_256 : jeOK (jcn 11) 256 (1, 250, 0, 0) := ⟨_, rfl, (jin_56 _ (List.mem_of_getElem? (i := 7) rfl)), (jin_56 _ (List.mem_of_getElem? (i := 8) rfl)), (jin_56 _ (List.mem_of_getElem? (i := 9) rfl))⟩
theorem jq_11_260 : jeOK (jcn 11) 260 (1, 258, 0, 0) := ⟨_, rfl, (jin_57 _ (List.mem_of_getElem? (i := 15) rfl)), (jin_57 _ (List.mem_of_getElem? (i := 16) rfl)), (jin_57 _ (List.mem_of_getElem? (i := 17) rfl))⟩
theorem jq_11_263 : jeOK (jcn 11) 263 (1, 261, 0, 0) := ⟨_, rfl, (jin_58 _ (List.mem_of_getElem? (i := 4) rfl)), (jin_58 _ (List.mem_of_getElem? (i := 5) rfl)), (jin_58 _ (List.mem_of_getElem? (i := 6) rfl))⟩
theorem jq_11_267 : jeOK (jcn 11) 267 (1, 195, 0, 0) := ⟨_, rfl, (jin_58 _ (List.mem_of_getElem? (i := 16) rfl)), (jin_45 _ (List.mem_of_getElem? (i := 5) rfl)), (jin_45 _ (List.mem_of_getElem? (i := 6) rfl))⟩
theorem jq_11_270 : jeOK (jcn 11) 270 (1, 264, 0, 0) := ⟨_, rfl, (jin_58 _ (List.mem_of_getElem? (i := 17) rfl)), (jin_58 _ (List.mem_of_getElem? (i := 18) rfl)), (jin_58 _ (List.mem_of_getElem? (i := 19) rfl))⟩
theorem jq_11_273 : jeOK (jcn 11) 273 (2, 142, 0, 0) := ⟨_, rfl, (jin_58 _ (List.mem_of_getElem? (i := 23) rfl)), (jin_34 _ (List.mem_of_getElem? (i := 8) rfl))⟩
theorem jq_11_278 : jeOK (jcn 11) 278 (1, 265, 0, 0) := ⟨_, rfl, (jin_59 _ (List.mem_of_getElem? (i := 0) rfl)), (jin_59 _ (List.mem_of_getElem? (i := 1) rfl)), (jin_59 _ (List.mem_of_getElem? (i := 2) rfl))⟩
theorem jq_11_281 : jeOK (jcn 11) 281 (2, 130, 0, 0) := ⟨_, rfl, (jin_59 _ (List.mem_of_getElem? (i := 5) rfl)), (jin_31 _ (List.mem_of_getElem? (i := 23) rfl))⟩
theorem jq_11_284 : jeOK (jcn 11) 284 (2, 192, 0, 0) := ⟨_, rfl, (jin_59 _ (List.mem_of_getElem? (i := 6) rfl)), (jin_44 _ (List.mem_of_getElem? (i := 16) rfl))⟩
theorem jq_11_287 : jeOK (jcn 11) 287 (2, 129, 0, 0) := ⟨_, rfl, (jin_59 _ (List.mem_of_getElem? (i := 7) rfl)), (jin_31 _ (List.mem_of_getElem? (i := 20) rfl))⟩
theorem jq_11_290 : jeOK (jcn 11) 290 (2, 268, 0, 0) := ⟨_, rfl, (jin_59 _ (List.mem_of_getElem? (i := 16) rfl)), (jin_59 _ (List.mem_of_getElem? (i := 17) rfl))⟩
theorem jq_11_293 : jeOK (jcn 11) 293 (1, 252, 0, 0) := ⟨_, rfl, (jin_60 _ (List.mem_of_getElem? (i := 6) rfl)), (jin_56 _ (List.mem_of_getElem? (i := 17) rfl)), (jin_56 _ (List.mem_of_getElem? (i := 18) rfl))⟩
theorem jq_11_296 : jeOK (jcn 11) 296 (2, 272, 0, 0) := ⟨_, rfl, (jin_60 _ (List.mem_of_getElem? (i := 7) rfl)), (jin_60 _ (List.mem_of_getElem? (i := 8) rfl))⟩
theorem jq_11_299 : jeOK (jcn 11) 299 (1, 274, 0, 0) := ⟨_, rfl, (jin_60 _ (List.mem_of_getElem? (i := 14) rfl)), (jin_60 _ (List.mem_of_getElem? (i := 15) rfl)), (jin_60 _ (List.mem_of_getElem? (i := 16) rfl))⟩
theorem jq_11_303 : jeOK (jcn 11) 303 (1, 277, 0, 0) := ⟨_, rfl, (jin_61 _ (List.mem_of_getElem? (i := 4) rfl)), (jin_61 _ (List.mem_of_getElem? (i := 5) rfl)), (jin_61 _ (List.mem_of_getElem? (i := 6) rfl))⟩
theorem jq_11_306 : jeOK (jcn 11) 306 (1, 280, 0, 0) := ⟨_, rfl, (jin_61 _ (List.mem_of_getElem? (i := 16) rfl)), (jin_61 _ (List.mem_of_getElem? (i := 17) rfl)), (jin_61 _ (List.mem_of_getElem? (i := 18) rfl))⟩
theorem jq_11_309 : jeOK (jcn 11) 309 (1, 285, 0, 0) := ⟨_, rfl, (jin_62 _ (List.mem_of_getElem? (i := 16) rfl)), (jin_62 _ (List.mem_of_getElem? (i := 17) rfl)), (jin_62 _ (List.mem_of_getElem? (i := 18) rfl))⟩
theorem jq_11_312 : jeOK (jcn 11) 312 (1, 293, 0, 0) := ⟨_, rfl, (jin_64 _ (List.mem_of_getElem? (i := 2) rfl)), (jin_64 _ (List.mem_of_getElem? (i := 3) rfl)), (jin_64 _ (List.mem_of_getElem? (i := 4) rfl))⟩
theorem jq_11_315 : jeOK (jcn 11) 315 (1, 294, 0, 0) := ⟨_, rfl, (jin_64 _ (List.mem_of_getElem? (i := 6) rfl)), (jin_64 _ (List.mem_of_getElem? (i := 7) rfl)), (jin_64 _ (List.mem_of_getElem? (i := 8) rfl))⟩
theorem jq_11_318 : jeOK (jcn 11) 318 (1, 297, 0, 0) := ⟨_, rfl, (jin_64 _ (List.mem_of_getElem? (i := 18) rfl)), (jin_64 _ (List.mem_of_getElem? (i := 19) rfl)), (jin_64 _ (List.mem_of_getElem? (i := 20) rfl))⟩
theorem jq_11_321 : jeOK (jcn 11) 321 (1, 300, 0, 0) := ⟨_, rfl, (jin_65 _ (List.mem_of_getElem? (i := 7) rfl)), (jin_65 _ (List.mem_of_getElem? (i := 8) rfl)), (jin_65 _ (List.mem_of_getElem? (i := 9) rfl))⟩
theorem jq_11_324 : jeOK (jcn 11) 324 (0, 0, 5, 0) := ⟨_, rfl, by decide, (jin_61 _ (List.mem_of_getElem? (i := 20) rfl))⟩
theorem jq_11_327 : jeOK (jcn 11) 327 (1, 108, 0, 0) := ⟨_, rfl, (jin_28 _ (List.mem_of_getElem? (i := 2) rfl)), (jin_28 _ (List.mem_of_getElem? (i := 3) rfl)), (jin_28 _ (List.mem_of_getElem? (i := 4) rfl))⟩
theorem jq_11_329 : jeOK (jcn 11) 329 (0, 6, 1, 0) := ⟨_, rfl, by decide, (jin_61 _ (List.mem_of_getElem? (i := 21) rfl))⟩
theorem jq_11_332 : jeOK (jcn 11) 332 (1, 281, 0, 0) := ⟨_, rfl, (jin_61 _ (List.mem_of_getElem? (i := 22) rfl)), (jin_61 _ (List.mem_of_getElem? (i := 23) rfl)), (jin_62 _ (List.mem_of_getElem? (i := 0) rfl))⟩
theorem jo_11 : jall (jeOK (jcn 11)) 0 jp_11 := ⟨⟨jq_11_1, jq_11_7, jq_11_9, jq_11_10, trivial⟩, ⟨jq_11_16, jq_11_18, jq_11_22, jq_11_24, jq_11_27, jq_11_31, trivial⟩, ⟨jq_11_33, jq_11_34, jq_11_38, jq_11_40, jq_11_41, jq_11_45, trivial⟩, ⟨jq_11_48, jq_11_52, jq_11_54, jq_11_57, jq_11_61, jq_11_63, trivial⟩, ⟨jq_11_66, jq_11_70, jq_11_72, jq_11_73, jq_11_77, jq_11_79, trivial⟩, ⟨jq_11_80, jq_11_84, jq_11_88, jq_11_92, jq_11_95, trivial⟩, ⟨jq_11_99, jq_11_100, jq_11_103, jq_11_106, jq_11_110, trivial⟩, ⟨jq_11_113, jq_11_114, jq_11_118, jq_11_122, jq_11_126, trivial⟩, ⟨jq_11_132, jq_11_135, jq_11_138, jq_11_141, trivial⟩, ⟨jq_11_145, jq_11_148, jq_11_151, jq_11_154, jq_11_158, trivial⟩, ⟨jq_11_162, jq_11_165, jq_11_168, jq_11_172, jq_11_175, trivial⟩, ⟨jq_11_179, jq_11_182, jq_11_185, jq_11_189, trivial⟩, ⟨jq_11_193, jq_11_196, jq_11_199, jq_11_202, jq_11_206, trivial⟩, ⟨jq_11_209, jq_11_212, jq_11_215, jq_11_218, jq_11_221, trivial⟩, ⟨jq_11_224, jq_11_228, jq_11_232, jq_11_235, jq_11_238, trivial⟩, ⟨jq_11_241, jq_11_244, jq_11_247, jq_11_250, jq_11_253, trivial⟩, ⟨jq_11_256, jq_11_260, jq_11_263, jq_11_267, jq_11_270, trivial⟩, ⟨jq_11_273, jq_11_278, jq_11_281, jq_11_284, jq_11_287, trivial⟩, ⟨jq_11_290, jq_11_293, jq_11_296, jq_11_299, jq_11_303, trivial⟩, ⟨jq_11_306, jq_11_309, jq_11_312, jq_11_315, jq_11_318, trivial⟩, ⟨jq_11_321, jq_11_324, jq_11_327, jq_11_329, jq_11_332, trivial⟩, trivial⟩
theorem jq_12_1 : jeOK (jcn 12) 1 (5, 0, 0, 0) := (jin_10 _ (List.mem_of_getElem? (i := 13) rfl))
theorem jq_12_7 : jeOK (jcn 12) 7 (0, 12, 0, 0) := ⟨_, rfl, by decide, (jin_10 _ (List.mem_of_getElem? (i := 15) rfl))⟩
theorem jq_12_13 : jeOK (jcn 12) 13 (0, 12, 3, 0) := ⟨_, rfl, by decide, (jin_10 _ (List.mem_of_getElem? (i := 16) rfl))⟩
theorem jq_12_17 : jeOK (jcn 12) 17 (0, 12, 5, 0) := ⟨_, rfl, by decide, (jin_10 _ (List.mem_of_getElem? (i := 17) rfl))⟩
theorem jq_12_21 : jeOK (jcn 12) 21 (0, 12, 6, 0) := ⟨_, rfl, by decide, (jin_10 _ (List.mem_of_getElem? (i := 18) rfl))⟩
theorem jq_12_25 : jeOK (jcn 12) 25 (0, 12, 7, 0) := ⟨_, rfl, by decide, (jin_10 _ (List.mem_of_getElem? (i := 19) rfl))⟩
theorem jq_12_28 : jeOK (jcn 12) 28 (0, 12, 8, 0) := ⟨_, rfl, by decide, (jin_10 _ (List.mem_of_getElem? (i := 20) rfl))⟩
theorem jq_12_31 : jeOK (jcn 12) 31 (0, 12, 9, 0) := ⟨_, rfl, by decide, (jin_10 _ (List.mem_of_getElem? (i := 21) rfl))⟩
theorem jq_12_34 : jeOK (jcn 12) 34 (0, 12, 10, 0) := ⟨_, rfl, by decide, (jin_10 _ (List.mem_of_getElem? (i := 22) rfl))⟩
theorem jq_12_37 : jeOK (jcn 12) 37 (0, 12, 11, 0) := ⟨_, rfl, by decide, (jin_10 _ (List.mem_of_getElem? (i := 23) rfl))⟩
theorem jq_12_40 : jeOK (jcn 12) 40 (0, 12, 12, 0) := ⟨_, rfl, by decide, (jin_11 _ (List.mem_of_getElem? (i := 0) rfl))⟩
theorem jq_12_43 : jeOK (jcn 12) 43 (0, 12, 13, 0) := ⟨_, rfl, by decide, (jin_11 _ (List.mem_of_getElem? (i := 1) rfl))⟩
theorem jq_12_46 : jeOK (jcn 12) 46 (0, 12, 18, 0) := ⟨_, rfl, by decide, (jin_11 _ (List.mem_of_getElem? (i := 2) rfl))⟩
theorem jq_12_49 : jeOK (jcn 12) 49 (0, 12, 25, 0) := ⟨_, rfl, by decide, (jin_11 _ (List.mem_of_getElem? (i := 3) rfl))⟩
theorem jq_12_52 : jeOK (jcn 12) 52 (0, 12, 26, 0) := ⟨_, rfl, by decide, (jin_11 _ (List.mem_of_getElem? (i := 4) rfl))⟩
theorem jq_12_55 : jeOK (jcn 12) 55 (0, 12, 27, 0) := ⟨_, rfl, by decide, (jin_11 _ (List.mem_of_getElem? (i := 5) rfl))⟩
theorem jq_12_58 : jeOK (jcn 12) 58 (0, 12, 28, 0) := ⟨_, rfl, by decide, (jin_11 _ (List.mem_of_getElem? (i := 6) rfl))⟩
theorem jq_12_61 : jeOK (jcn 12) 61 (0, 12, 29, 0) := ⟨_, rfl, by decide, (jin_11 _ (List.mem_of_getElem? (i := 7) rfl))⟩
theorem jq_12_64 : jeOK (jcn 12) 64 (0, 12, 30, 0) := ⟨_, rfl, by decide, (jin_11 _ (List.mem_of_getElem? (i := 8) rfl))⟩
theorem jq_12_67 : jeOK (jcn 12) 67 (0, 12, 31, 0) := ⟨_, rfl, by decide, (jin_11 _ (List.mem_of_getElem? (i := 9) rfl))⟩
theorem jq_12_70 : jeOK (jcn 12) 70 (0, 12, 32, 0) := ⟨_, rfl, by decide, (jin_11 _ (List.mem_of_getElem? (i := 10) rfl))⟩
theorem jq_12_73 : jeOK (jcn 12) 73 (0, 12, 33, 0) := ⟨_, rfl, by decide, (jin_11 _ (List.mem_of_getElem? (i := 11) rfl))⟩
theorem jq_12_76 : jeOK (jcn 12) 76 (0, 12, 34, 0) := ⟨_, rfl, by decide, (jin_11 _ (List.mem_of_getElem? (i := 12) rfl))⟩
theorem jq_12_79 : jeOK (jcn 12) 79 (0, 12, 35, 0) := ⟨_, rfl, by decide, (jin_11 _ (List.mem_of_getElem? (i := 13) rfl))⟩
theorem jq_12_82 : jeOK (jcn 12) 82 (0, 12, 36, 0) := ⟨_, rfl, by decide, (jin_11 _ (List.mem_of_getElem? (i := 14) rfl))⟩
theorem jq_12_85 : jeOK (jcn 12) 85 (0, 12, 37, 0) := ⟨_, rfl, by decide, (jin_11 _ (List.mem_of_getElem? (i := 15) rfl))⟩
theorem jq_12_88 : jeOK (jcn 12) 88 (0, 12, 38, 0) := ⟨_, rfl, by decide, (jin_11 _ (List.mem_of_getElem? (i := 16) rfl))⟩
theorem jq_12_92 : jeOK (jcn 12) 92 (0, 12, 39, 0) := ⟨_, rfl, by decide, (jin_11 _ (List.mem_of_getElem? (i := 17) rfl))⟩
theorem jq_12_95 : jeOK (jcn 12) 95 (0, 12, 41, 0) := ⟨_, rfl, by decide, (jin_11 _ (List.mem_of_getElem? (i := 18) rfl))⟩
theorem jq_12_98 : jeOK (jcn 12) 98 (0, 12, 42, 0) := ⟨_, rfl, by decide, (jin_11 _ (List.mem_of_getElem? (i := 19) rfl))⟩
theorem jq_12_101 : jeOK (jcn 12) 101 (0, 12, 43, 0) := ⟨_, rfl, by decide, (jin_11 _ (List.mem_of_getElem? (i := 20) rfl))⟩
theorem jq_12_104 : jeOK (jcn 12) 104 (0, 12, 44, 0) := ⟨_, rfl, by decide, (jin_11 _ (List.mem_of_getElem? (i := 21) rfl))⟩
theorem jq_12_107 : jeOK (jcn 12) 107 (0, 12, 45, 0) := ⟨_, rfl, by decide, (jin_11 _ (List.mem_of_getElem? (i := 22) rfl))⟩
theorem jq_12_110 : jeOK (jcn 12) 110 (0, 12, 46, 0) := ⟨_, rfl, by decide, (jin_11 _ (List.mem_of_getElem? (i := 23) rfl))⟩
theorem jq_12_113 : jeOK (jcn 12) 113 (0, 12, 47, 0) := ⟨_, rfl, by decide, (jin_12 _ (List.mem_of_getElem? (i := 0) rfl))⟩
theorem jq_12_116 : jeOK (jcn 12) 116 (0, 12, 55, 0) := ⟨_, rfl, by decide, (jin_12 _ (List.mem_of_getElem? (i := 1) rfl))⟩
theorem jq_12_119 : jeOK (jcn 12) 119 (0, 12, 56, 0) := ⟨_, rfl, by decide, (jin_12 _ (List.mem_of_getElem? (i := 2) rfl))⟩
theorem jq_12_122 : jeOK (jcn 12) 122 (0, 12, 59, 0) := ⟨_, rfl, by decide, (jin_12 _ (List.mem_of_getElem? (i := 3) rfl))⟩
theorem jq_12_125 : jeOK (jcn 12) 125 (0, 12, 60, 0) := ⟨_, rfl, by decide, (jin_12 _ (List.mem_of_getElem? (i := 4) rfl))⟩
theorem jq_12_128 : jeOK (jcn 12) 128 (0, 12, 61, 0) := ⟨_, rfl, by decide, (jin_12 _ (List.mem_of_getElem? (i := 5) rfl))⟩
theorem jq_12_131 : jeOK (jcn 12) 131 (0, 12, 62, 0) := ⟨_, rfl, by decide, (jin_12 _ (List.mem_of_getElem? (i := 6) rfl))⟩
theorem jq_12_134 : jeOK (jcn 12) 134 (0, 12, 63, 0) := ⟨_, rfl, by decide, (jin_12 _ (List.mem_of_getElem? (i := 7) rfl))⟩
theorem jq_12_137 : jeOK (jcn 12) 137 (0, 12, 70, 0) := ⟨_, rfl, by decide, (jin_12 _ (List.mem_of_getElem? (i := 8) rfl))⟩
theorem jq_12_140 : jeOK (jcn 12) 140 (0, 12, 71, 0) := ⟨_, rfl, by decide, (jin_12 _ (List.mem_of_getElem? (i := 9) rfl))⟩
theorem jq_12_143 : jeOK (jcn 12) 143 (0, 12, 72, 0) := ⟨_, rfl, by decide, (jin_12 _ (List.mem_of_getElem? (i := 10) rfl))⟩
theorem jq_12_146 : jeOK (jcn 12) 146 (0, 12, 73, 0) := ⟨_, rfl, by decide, (jin_12 _ (List.mem_of_getElem? (i := 11) rfl))⟩
theorem jq_12_149 : jeOK (jcn 12) 149 (0, 12, 75, 0) := ⟨_, rfl, by decide, (jin_12 _ (List.mem_of_getElem? (i := 12) rfl))⟩
theorem jq_12_152 : jeOK (jcn 12) 152 (0, 12, 76, 0) := ⟨_, rfl, by decide, (jin_12 _ (List.mem_of_getElem? (i := 13) rfl))⟩
theorem jq_12_155 : jeOK (jcn 12) 155 (0, 12, 77, 0) := ⟨_, rfl, by decide, (jin_12 _ (List.mem_of_getElem? (i := 14) rfl))⟩
theorem jq_12_158 : jeOK (jcn 12) 158 (0, 12, 78, 0) := ⟨_, rfl, by decide, (jin_12 _ (List.mem_of_getElem? (i := 15) rfl))⟩
theorem jq_12_161 : jeOK (jcn 12) 161 (0, 12, 79, 0) := ⟨_, rfl, by decide, (jin_12 _ (List.mem_of_getElem? (i := 16) rfl))⟩
theorem jq_12_164 : jeOK (jcn 12) 164 (0, 12, 80, 0) := ⟨_, rfl, by decide, (jin_12 _ (List.mem_of_getElem? (i := 17) rfl))⟩
theorem jq_12_167 : jeOK (jcn 12) 167 (0, 12, 81, 0) := ⟨_, rfl, by decide, (jin_12 _ (List.mem_of_getElem? (i := 18) rfl))⟩
theorem jq_12_170 : jeOK (jcn 12) 170 (0, 12, 82, 0) := ⟨_, rfl, by decide, (jin_12 _ (List.mem_of_getElem? (i := 19) rfl))⟩
theorem jq_12_173 : jeOK (jcn 12) 173 (8, 0, 0, 1000000) := (jin_12 _ (List.mem_of_getElem? (i := 20) rfl))
theorem jq_12_175 : jeOK (jcn 12) 175 (8, 0, 0, 100000000) := (jin_12 _ (List.mem_of_getElem? (i := 21) rfl))
theorem jq_12_177 : jeOK (jcn 12) 177 (8, 0, 0, 1000000000) := (jin_12 _ (List.mem_of_getElem? (i := 22) rfl))
theorem jq_12_179 : jeOK (jcn 12) 179 (8, 0, 0, 10) := (jin_12 _ (List.mem_of_getElem? (i := 23) rfl))
theorem jq_12_181 : jeOK (jcn 12) 181 (0, 12, 1, 0) := ⟨_, rfl, by decide, (jin_13 _ (List.mem_of_getElem? (i := 18) rfl))⟩
theorem jq_12_184 : jeOK (jcn 12) 184 (1, 33, 0, 0) := ⟨_, rfl, (jin_13 _ (List.mem_of_getElem? (i := 19) rfl)), (jin_13 _ (List.mem_of_getElem? (i := 20) rfl)), (jin_13 _ (List.mem_of_getElem? (i := 21) rfl))⟩
theorem jq_12_188 : jeOK (jcn 12) 188 (2, 97, 0, 0) := ⟨_, rfl, (jin_25 _ (List.mem_of_getElem? (i := 23) rfl)), (jin_26 _ (List.mem_of_getElem? (i := 0) rfl))⟩
theorem jq_12_192 : jeOK (jcn 12) 192 (0, 12, 4, 0) := ⟨_, rfl, by decide, (jin_26 _ (List.mem_of_getElem? (i := 19) rfl))⟩
theorem jq_12_195 : jeOK (jcn 12) 195 (1, 105, 0, 0) := ⟨_, rfl, (jin_27 _ (List.mem_of_getElem? (i := 14) rfl)), (jin_27 _ (List.mem_of_getElem? (i := 15) rfl)), (jin_27 _ (List.mem_of_getElem? (i := 16) rfl))⟩
theorem jq_12_198 : jeOK (jcn 12) 198 (1, 111, 0, 0) := ⟨_, rfl, (jin_28 _ (List.mem_of_getElem? (i := 14) rfl)), (jin_28 _ (List.mem_of_getElem? (i := 15) rfl)), (jin_28 _ (List.mem_of_getElem? (i := 16) rfl))⟩
theorem jq_12_202 : jeOK (jcn 12) 202 (1, 121, 0, 0) := ⟨_, rfl, (jin_30 _ (List.mem_of_getElem? (i := 7) rfl)), (jin_30 _ (List.mem_of_getElem? (i := 8) rfl)), (jin_30 _ (List.mem_of_getElem? (i := 9) rfl))⟩
theorem jq_12_206 : jeOK (jcn 12) 206 (2, 122, 0, 0) := ⟨_, rfl, (jin_30 _ (List.mem_of_getElem? (i := 11) rfl)), (jin_30 _ (List.mem_of_getElem? (i := 12) rfl))⟩
theorem jq_12_210 : jeOK (jcn 12) 210 (1, 119, 0, 0) := ⟨_, rfl, (jin_29 _ (List.mem_of_getElem? (i := 23) rfl)), (jin_30 _ (List.mem_of_getElem? (i := 0) rfl)), (jin_30 _ (List.mem_of_getElem? (i := 1) rfl))⟩
theorem jq_12_214 : jeOK (jcn 12) 214 (1, 120, 0, 0) := ⟨_, rfl, (jin_30 _ (List.mem_of_getElem? (i := 3) rfl)), (jin_30 _ (List.mem_of_getElem? (i := 4) rfl)), (jin_30 _ (List.mem_of_getElem? (i := 5) rfl))⟩
theorem jq_12_217 : jeOK (jcn 12) 217 (7, 0, 0, 1000000) := (jin_32 _ (List.mem_of_getElem? (i := 9) rfl))
theorem jq_12_218 : jeOK (jcn 12) 218 (2, 133, 0, 0) := ⟨_, rfl, (jin_32 _ (List.mem_of_getElem? (i := 10) rfl)), (jin_32 _ (List.mem_of_getElem? (i := 11) rfl))⟩
theorem jq_12_222 : jeOK (jcn 12) 222 (1, 132, 0, 0) := ⟨_, rfl, (jin_32 _ (List.mem_of_getElem? (i := 5) rfl)), (jin_32 _ (List.mem_of_getElem? (i := 6) rfl)), (jin_32 _ (List.mem_of_getElem? (i := 7) rfl))⟩
theorem jq_12_226 : jeOK (jcn 12) 226 (0, 12, 14, 0) := ⟨_, rfl, by decide, (jin_33 _ (List.mem_of_getElem? (i := 10) rfl))⟩
theorem jq_12_229 : jeOK (jcn 12) 229 (0, 12, 15, 0) := ⟨_, rfl, by decide, (jin_33 _ (List.mem_of_getElem? (i := 11) rfl))⟩
theorem jq_12_232 : jeOK (jcn 12) 232 (0, 12, 16, 0) := ⟨_, rfl, by decide, (jin_33 _ (List.mem_of_getElem? (i := 12) rfl))⟩
theorem jq_12_235 : jeOK (jcn 12) 235 (0, 12, 17, 0) := ⟨_, rfl, by decide, (jin_33 _ (List.mem_of_getElem? (i := 13) rfl))⟩
theorem jq_12_238 : jeOK (jcn 12) 238 (2, 146, 0, 0) := ⟨_, rfl, (jin_35 _ (List.mem_of_getElem? (i := 3) rfl)), (jin_35 _ (List.mem_of_getElem? (i := 4) rfl))⟩
theorem jq_12_241 : jeOK (jcn 12) 241 (2, 147, 0, 0) := ⟨_, rfl, (jin_35 _ (List.mem_of_getElem? (i := 6) rfl)), (jin_35 _ (List.mem_of_getElem? (i := 7) rfl))⟩
theorem jq_12_244 : jeOK (jcn 12) 244 (1, 148, 0, 0) := ⟨_, rfl, (jin_35 _ (List.mem_of_getElem? (i := 9) rfl)), (jin_35 _ (List.mem_of_getElem? (i := 10) rfl)), (jin_35 _ (List.mem_of_getElem? (i := 11) rfl))⟩
theorem jq_12_248 : jeOK (jcn 12) 248 (1, 153, 0, 0) := ⟨_, rfl, (jin_36 _ (List.mem_of_getElem? (i := 8) rfl)), (jin_36 _ (List.mem_of_getElem? (i := 9) rfl)), (jin_36 _ (List.mem_of_getElem? (i := 10) rfl))⟩
theorem jq_12_251 : jeOK (jcn 12) 251 (1, 159, 0, 0) := ⟨_, rfl, (jin_37 _ (List.mem_of_getElem? (i := 10) rfl)), (jin_37 _ (List.mem_of_getElem? (i := 11) rfl)), (jin_37 _ (List.mem_of_getElem? (i := 12) rfl))⟩
theorem jq_12_254 : jeOK (jcn 12) 254 (1, 71, 0, 0) := ⟨_, rfl, (jin_21 _ (List.mem_of_getElem? (i := 4) rfl)), (jin_21 _ (List.mem_of_getElem? (i := 5) rfl)), (jin_21 _ (List.mem_of_getElem? (i := 6) rfl))⟩
theorem jq_12_257 : jeOK (jcn 12) 257 (8, 0, 0, 7103860) := (jin_21 _ (List.mem_of_getElem? (i := 16) rfl))
theorem jq_12_259 : jeOK (jcn 12) 259 (8, 0, 0, 125780002955636) := (jin_21 _ (List.mem_of_getElem? (i := 17) rfl))
theorem jq_12_261 : jeOK (jcn 12) 261 (8, 0, 0, 26982) := (jin_21 _ (List.mem_of_getElem? (i := 18) rfl))
theorem jq_12_263 : jeOK (jcn 12) 263 (8, 0, 0, 1701606245) := (jin_21 _ (List.mem_of_getElem? (i := 19) rfl))
theorem jq_12_265 : jeOK (jcn 12) 265 (8, 0, 0, 6647396) := (jin_21 _ (List.mem_of_getElem? (i := 20) rfl))
theorem jq_12_267 : jeOK (jcn 12) 267 (8, 0, 0, 126948267617401) := (jin_21 _ (List.mem_of_getElem? (i := 21) rfl))
theorem jq_12_269 : jeOK (jcn 12) 269 (8, 0, 0, 126931137819237) := (jin_21 _ (List.mem_of_getElem? (i := 22) rfl))
theorem jq_12_271 : jeOK (jcn 12) 271 (8, 0, 0, 1668637285) := (jin_21 _ (List.mem_of_getElem? (i := 23) rfl))
theorem jq_12_273 : jeOK (jcn 12) 273 (8, 0, 0, 1919905652) := (jin_22 _ (List.mem_of_getElem? (i := 0) rfl))
theorem jq_12_275 : jeOK (jcn 12) 275 (8, 0, 0, 499967947364) := (jin_22 _ (List.mem_of_getElem? (i := 1) rfl))
theorem jq_12_277 : jeOK (jcn 12) 277 (8, 0, 0, 1870030194) := (jin_22 _ (List.mem_of_getElem? (i := 2) rfl))
theorem jq_12_279 : jeOK (jcn 12) 279 (0, 12, 20, 0) := ⟨_, rfl, by decide, (jin_20 _ (List.mem_of_getElem? (i := 21) rfl))⟩
theorem jq_12_282 : jeOK (jcn 12) 282 (1, 70, 0, 0) := ⟨_, rfl, (jin_21 _ (List.mem_of_getElem? (i := 0) rfl)), (jin_21 _ (List.mem_of_getElem? (i := 1) rfl)), (jin_21 _ (List.mem_of_getElem? (i := 2) rfl))⟩
theorem jq_12_285 : jeOK (jcn 12) 285 (0, 12, 23, 0) := ⟨_, rfl, by decide, (jin_21 _ (List.mem_of_getElem? (i := 12) rfl))⟩
theorem jq_12_289 : jeOK (jcn 12) 289 (2, 73, 0, 0) := ⟨_, rfl, (jin_21 _ (List.mem_of_getElem? (i := 13) rfl)), (jin_21 _ (List.mem_of_getElem? (i := 14) rfl))⟩
theorem jq_12_293 : jeOK (jcn 12) 293 (0, 12, 22, 0) := ⟨_, rfl, by decide, (jin_20 _ (List.mem_of_getElem? (i := 23) rfl))⟩
theorem jq_12_296 : jeOK (jcn 12) 296 (0, 12, 19, 0) := ⟨_, rfl, by decide, (jin_20 _ (List.mem_of_getElem? (i := 22) rfl))⟩
theorem jq_12_299 : jeOK (jcn 12) 299 (0, 12, 21, 0) := ⟨_, rfl, by decide, (jin_20 _ (List.mem_of_getElem? (i := 14) rfl))⟩
theorem jq_12_302 : jeOK (jcn 12) 302 (1, 74, 0, 0) := ⟨_, rfl, (jin_22 _ (List.mem_of_getElem? (i := 3) rfl)), (jin_22 _ (List.mem_of_getElem? (i := 4) rfl)), (jin_22 _ (List.mem_of_getElem? (i := 5) rfl))⟩
theorem jq_12_305 : jeOK (jcn 12) 305 (1, 72, 0, 0) := ⟨_, rfl, (jin_21 _ (List.mem_of_getElem? (i := 8) rfl)), (jin_21 _ (List.mem_of_getElem? (i := 9) rfl)), (jin_21 _ (List.mem_of_getElem? (i := 10) rfl))⟩
theorem jq_12_308 : jeOK (jcn 12) 308 (1, 75, 0, 0) := ⟨_, rfl, (jin_22 _ (List.mem_of_getElem? (i := 7) rfl)), (jin_22 _ (List.mem_of_getElem? (i := 8) rfl)), (jin_22 _ (List.mem_of_getElem? (i := 9) rfl))⟩
theorem jq_12_311 : jeOK (jcn 12) 311 (0, 12, 2, 0) := ⟨_, rfl, by decide, (jin_20 _ (List.mem_of_getElem? (i := 13) rfl))⟩
theorem jq_12_314 : jeOK (jcn 12) 314 (0, 12, 24, 0) := ⟨_, rfl, by decide, (jin_20 _ (List.mem_of_getElem? (i := 15) rfl))⟩
theorem jq_12_317 : jeOK (jcn 12) 317 (1, 77, 0, 0) := ⟨_, rfl, (jin_22 _ (List.mem_of_getElem? (i := 15) rfl)), (jin_22 _ (List.mem_of_getElem? (i := 16) rfl)), (jin_22 _ (List.mem_of_getElem? (i := 17) rfl))⟩
theorem jq_12_320 : jeOK (jcn 12) 320 (1, 69, 0, 0) := ⟨_, rfl, (jin_20 _ (List.mem_of_getElem? (i := 17) rfl)), (jin_20 _ (List.mem_of_getElem? (i := 18) rfl)), (jin_20 _ (List.mem_of_getElem? (i := 19) rfl))⟩
theorem jq_12_323 : jeOK (jcn 12) 323 (1, 83, 0, 0) := ⟨_, rfl, (jin_23 _ (List.mem_of_getElem? (i := 15) rfl)), (jin_23 _ (List.mem_of_getElem? (i := 16) rfl)), (jin_23 _ (List.mem_of_getElem? (i := 17) rfl))⟩
theorem jq_12_326 : jeOK (jcn 12) 326 (1, 79, 0, 0) := ⟨_, rfl, (jin_22 _ (List.mem_of_getElem? (i := 23) rfl)), (jin_23 _ (List.mem_of_getElem? (i := 0) rfl)), (jin_23 _ (List.mem_of_getElem? (i := 1) rfl))⟩
theorem jq_12_330 : jeOK (jcn 12) 330 (1, 85, 0, 0) := ⟨_, rfl, (jin_23 _ (List.mem_of_getElem? (i := 23) rfl)), (jin_24 _ (List.mem_of_getElem? (i := 0) rfl)), (jin_24 _ (List.mem_of_getElem? (i := 1) rfl))⟩
theorem jq_12_333 : jeOK (jcn 12) 333 (1, 86, 0, 0) := ⟨_, rfl, (jin_24 _ (List.mem_of_getElem? (i := 3) rfl)), (jin_24 _ (List.mem_of_getElem? (i := 4) rfl)), (jin_24 _ (List.mem_of_getElem? (i := 5) rfl))⟩
theorem jq_12_337 : jeOK (jcn 12) 337 (1, 80, 0, 0) := ⟨_, rfl, (jin_23 _ (List.mem_of_getElem? (i := 3) rfl)), (jin_23 _ (List.mem_of_getElem? (i := 4) rfl)), (jin_23 _ (List.mem_of_getElem? (i := 5) rfl))⟩
theorem jq_12_341 : jeOK (jcn 12) 341 (1, 81, 0, 0) := ⟨_, rfl, (jin_23 _ (List.mem_of_getElem? (i := 7) rfl)), (jin_23 _ (List.mem_of_getElem? (i := 8) rfl)), (jin_23 _ (List.mem_of_getElem? (i := 9) rfl))⟩
theorem jq_12_344 : jeOK (jcn 12) 344 (1, 82, 0, 0) := ⟨_, rfl, (jin_23 _ (List.mem_of_getElem? (i := 11) rfl)), (jin_23 _ (List.mem_of_getElem? (i := 12) rfl)), (jin_23 _ (List.mem_of_getElem? (i := 13) rfl))⟩
theorem jq_12_347 : jeOK (jcn 12) 347 (1, 84, 0, 0) := ⟨_, rfl, (jin_23 _ (List.mem_of_getElem? (i := 19) rfl)), (jin_23 _ (List.mem_of_getElem? (i := 20) rfl)), (jin_23 _ (List.mem_of_getElem? (i := 21) rfl))⟩
theorem jq_12_350 : jeOK (jcn 12) 350 (0, 12, 40, 0) := ⟨_, rfl, by decide, (jin_20 _ (List.mem_of_getElem? (i := 16) rfl))⟩
theorem jq_12_353 : jeOK (jcn 12) 353 (1, 89, 0, 0) := ⟨_, rfl, (jin_24 _ (List.mem_of_getElem? (i := 15) rfl)), (jin_24 _ (List.mem_of_getElem? (i := 16) rfl)), (jin_24 _ (List.mem_of_getElem? (i := 17) rfl))⟩
theorem jq_12_356 : jeOK (jcn 12) 356 (1, 78, 0, 0) := ⟨_, rfl, (jin_22 _ (List.mem_of_getElem? (i := 19) rfl)), (jin_22 _ (List.mem_of_getElem? (i := 20) rfl)), (jin_22 _ (List.mem_of_getElem? (i := 21) rfl))⟩
theorem jq_12_359 : jeOK (jcn 12) 359 (1, 87, 0, 0) := ⟨_, rfl, (jin_24 _ (List.mem_of_getElem? (i := 7) rfl)), (jin_24 _ (List.mem_of_getElem? (i := 8) rfl)), (jin_24 _ (List.mem_of_getElem? (i := 9) rfl))⟩
theorem jq_12_362 : jeOK (jcn 12) 362 (1, 88, 0, 0) := ⟨_, rfl, (jin_24 _ (List.mem_of_getElem? (i := 11) rfl)), (jin_24 _ (List.mem_of_getElem? (i := 12) rfl)), (jin_24 _ (List.mem_of_getElem? (i := 13) rfl))⟩
theorem jq_12_365 : jeOK (jcn 12) 365 (1, 90, 0, 0) := ⟨_, rfl, (jin_24 _ (List.mem_of_getElem? (i := 19) rfl)), (jin_24 _ (List.mem_of_getElem? (i := 20) rfl)), (jin_24 _ (List.mem_of_getElem? (i := 21) rfl))⟩
theorem jq_12_368 : jeOK (jcn 12) 368 (1, 91, 0, 0) := ⟨_, rfl, (jin_24 _ (List.mem_of_getElem? (i := 23) rfl)), (jin_25 _ (List.mem_of_getElem? (i := 0) rfl)), (jin_25 _ (List.mem_of_getElem? (i := 1) rfl))⟩
theorem jq_12_371 : jeOK (jcn 12) 371 (1, 76, 0, 0) := ⟨_, rfl, (jin_22 _ (List.mem_of_getElem? (i := 11) rfl)), (jin_22 _ (List.mem_of_getElem? (i := 12) rfl)), (jin_22 _ (List.mem_of_getElem? (i := 13) rfl))⟩
theorem jq_12_374 : jeOK (jcn 12) 374 (0, 12, 52, 0) := ⟨_, rfl, by decide, (jin_45 _ (List.mem_of_getElem? (i := 20) rfl))⟩
theorem jq_12_377 : jeOK (jcn 12) 377 (0, 12, 48, 0) := ⟨_, rfl, by decide, (jin_45 _ (List.mem_of_getElem? (i := 17) rfl))⟩
theorem jq_12_380 : jeOK (jcn 12) 380 (1, 199, 0, 0) := ⟨_, rfl, (jin_46 _ (List.mem_of_getElem? (i := 8) rfl)), (jin_46 _ (List.mem_of_getElem? (i := 9) rfl)), (jin_46 _ (List.mem_of_getElem? (i := 10) rfl))⟩
theorem jq_12_383 : jeOK (jcn 12) 383 (1, 207, 0, 0) := ⟨_, rfl, (jin_47 _ (List.mem_of_getElem? (i := 17) rfl)), (jin_47 _ (List.mem_of_getElem? (i := 18) rfl)), (jin_47 _ (List.mem_of_getElem? (i := 19) rfl))⟩
theorem jq_12_386 : jeOK (jcn 12) 386 (1, 206, 0, 0) := ⟨_, rfl, (jin_47 _ (List.mem_of_getElem? (i := 13) rfl)), (jin_47 _ (List.mem_of_getElem? (i := 14) rfl)), (jin_47 _ (List.mem_of_getElem? (i := 15) rfl))⟩
theorem jq_12_389 : jeOK (jcn 12) 389 (1, 205, 0, 0) := ⟨_, rfl, (jin_47 _ (List.mem_of_getElem? (i := 9) rfl)), (jin_47 _ (List.mem_of_getElem? (i := 10) rfl)), (jin_47 _ (List.mem_of_getElem? (i := 11) rfl))⟩
theorem jq_12_392 : jeOK (jcn 12) 392 (0, 12, 50, 0) := ⟨_, rfl, by decide, (jin_45 _ (List.mem_of_getElem? (i := 19) rfl))⟩
theorem jq_12_395 : jeOK (jcn 12) 395 (1, 208, 0, 0) := ⟨_, rfl, (jin_47 _ (List.mem_of_getElem? (i := 21) rfl)), (jin_47 _ (List.mem_of_getElem? (i := 22) rfl)), (jin_47 _ (List.mem_of_getElem? (i := 23) rfl))⟩
theorem jq_12_398 : jeOK (jcn 12) 398 (1, 198, 0, 0) := ⟨_, rfl, (jin_46 _ (List.mem_of_getElem? (i := 4) rfl)), (jin_46 _ (List.mem_of_getElem? (i := 5) rfl)), (jin_46 _ (List.mem_of_getElem? (i := 6) rfl))⟩
theorem jq_12_401 : jeOK (jcn 12) 401 (1, 202, 0, 0) := ⟨_, rfl, (jin_46 _ (List.mem_of_getElem? (i := 21) rfl)), (jin_46 _ (List.mem_of_getElem? (i := 22) rfl)), (jin_46 _ (List.mem_of_getElem? (i := 23) rfl))⟩
theorem jq_12_404 : jeOK (jcn 12) 404 (1, 203, 0, 0) := ⟨_, rfl, (jin_47 _ (List.mem_of_getElem? (i := 1) rfl)), (jin_47 _ (List.mem_of_getElem? (i := 2) rfl)), (jin_47 _ (List.mem_of_getElem? (i := 3) rfl))⟩
theorem jq_12_408 : jeOK (jcn 12) 408 (1, 204, 0, 0) := ⟨_, rfl, (jin_47 _ (List.mem_of_getElem? (i := 5) rfl)), (jin_47 _ (List.mem_of_getElem? (i := 6) rfl)), (jin_47 _ (List.mem_of_getElem? (i := 7) rfl))⟩
theorem jq_12_411 : jeOK (jcn 12) 411 (1, 209, 0, 0) := ⟨_, rfl, (jin_48 _ (List.mem_of_getElem? (i := 1) rfl)), (jin_48 _ (List.mem_of_getElem? (i := 2) rfl)), (jin_48 _ (List.mem_of_getElem? (i := 3) rfl))⟩
theorem jq_12_414 : jeOK (jcn 12) 414 (2, 210, 0, 0) := ⟨_, rfl, (jin_48 _ (List.mem_of_getElem? (i := 5) rfl)), (jin_48 _ (List.mem_of_getElem? (i := 6) rfl))⟩
theorem jq_12_417 : jeOK (jcn 12) 417 (0, 12, 49, 0) := ⟨_, rfl, by decide, (jin_45 _ (List.mem_of_getElem? (i := 18) rfl))⟩
theorem jq_12_420 : jeOK (jcn 12) 420 (0, 12, 57, 0) := ⟨_, rfl, by decide, (jin_46 _ (List.mem_of_getElem? (i := 16) rfl))⟩
theorem jq_12_423 : jeOK (jcn 12) 423 (1, 212, 0, 0) := ⟨_, rfl, (jin_48 _ (List.mem_of_getElem? (i := 12) rfl)), (jin_48 _ (List.mem_of_getElem? (i := 13) rfl)), (jin_48 _ (List.mem_of_getElem? (i := 14) rfl))⟩
theorem jq_12_426 : jeOK (jcn 12) 426 (1, 201, 0, 0) := ⟨_, rfl, (jin_46 _ (List.mem_of_getElem? (i := 17) rfl)), (jin_46 _ (List.mem_of_getElem? (i := 18) rfl)), (jin_46 _ (List.mem_of_getElem? (i := 19) rfl))⟩
theorem jq_12_429 : jeOK (jcn 12) 429 (1, 211, 0, 0) := ⟨_, rfl, (jin_48 _ (List.mem_of_getElem? (i := 8) rfl)), (jin_48 _ (List.mem_of_getElem? (i := 9) rfl)), (jin_48 _ (List.mem_of_getElem? (i := 10) rfl))⟩
theorem jq_12_432 : jeOK (jcn 12) 432 (1, 213, 0, 0) := ⟨_, rfl, (jin_48 _ (List.mem_of_getElem? (i := 16) rfl)), (jin_48 _ (List.mem_of_getElem? (i := 17) rfl)), (jin_48 _ (List.mem_of_getElem? (i := 18) rfl))⟩
theorem jq_12_436 : jeOK (jcn 12) 436 (1, 215, 0, 0) := ⟨_, rfl, (jin_49 _ (List.mem_of_getElem? (i := 0) rfl)), (jin_49 _ (List.mem_of_getElem? (i := 1) rfl)), (jin_49 _ (List.mem_of_getElem? (i := 2) rfl))⟩
theorem jq_12_439 : jeOK (jcn 12) 439 (1, 216, 0, 0) := ⟨_, rfl, (jin_49 _ (List.mem_of_getElem? (i := 4) rfl)), (jin_49 _ (List.mem_of_getElem? (i := 5) rfl)), (jin_49 _ (List.mem_of_getElem? (i := 6) rfl))⟩
theorem jq_12_442 : jeOK (jcn 12) 442 (0, 12, 53, 0) := ⟨_, rfl, by decide, (jin_45 _ (List.mem_of_getElem? (i := 22) rfl))⟩
theorem jq_12_445 : jeOK (jcn 12) 445 (1, 200, 0, 0) := ⟨_, rfl, (jin_46 _ (List.mem_of_getElem? (i := 12) rfl)), (jin_46 _ (List.mem_of_getElem? (i := 13) rfl)), (jin_46 _ (List.mem_of_getElem? (i := 14) rfl))⟩
theorem jq_12_448 : jeOK (jcn 12) 448 (1, 214, 0, 0) := ⟨_, rfl, (jin_48 _ (List.mem_of_getElem? (i := 20) rfl)), (jin_48 _ (List.mem_of_getElem? (i := 21) rfl)), (jin_48 _ (List.mem_of_getElem? (i := 22) rfl))⟩
theorem jq_12_451 : jeOK (jcn 12) 451 (1, 197, 0, 0) := ⟨_, rfl, (jin_46 _ (List.mem_of_getElem? (i := 0) rfl)), (jin_46 _ (List.mem_of_getElem? (i := 1) rfl)), (jin_46 _ (List.mem_of_getElem? (i := 2) rfl))⟩
theorem jq_12_454 : jeOK (jcn 12) 454 (0, 12, 54, 0) := ⟨_, rfl, by decide, (jin_45 _ (List.mem_of_getElem? (i := 21) rfl))⟩
theorem jq_12_457 : jeOK (jcn 12) 457 (0, 12, 51, 0) := ⟨_, rfl, by decide, (jin_45 _ (List.mem_of_getElem? (i := 23) rfl))⟩
theorem jq_12_460 : jeOK (jcn 12) 460 (0, 12, 58, 0) := ⟨_, rfl, by decide, (jin_51 _ (List.mem_of_getElem? (i := 18) rfl))⟩
theorem jq_12_463 : jeOK (jcn 12) 463 (0, 12, 67, 0) := ⟨_, rfl, by decide, (jin_54 _ (List.mem_of_getElem? (i := 19) rfl))⟩
theorem jq_12_466 : jeOK (jcn 12) 466 (0, 12, 68, 0) := ⟨_, rfl, by decide, (jin_54 _ (List.mem_of_getElem? (i := 20) rfl))⟩
theorem jq_12_469 : jeOK (jcn 12) 469 (0, 12, 69, 0) := ⟨_, rfl, by decide, (jin_54 _ (List.mem_of_getElem? (i := 21) rfl))⟩
theorem jq_12_472 : jeOK (jcn 12) 472 (1, 244, 0, 0) := ⟨_, rfl, (jin_55 _ (List.mem_of_getElem? (i := 6) rfl)), (jin_55 _ (List.mem_of_getElem? (i := 7) rfl)), (jin_55 _ (List.mem_of_getElem? (i := 8) rfl))⟩
theorem jq_12_475 : jeOK (jcn 12) 475 (1, 242, 0, 0) := ⟨_, rfl, (jin_54 _ (List.mem_of_getElem? (i := 22) rfl)), (jin_54 _ (List.mem_of_getElem? (i := 23) rfl)), (jin_55 _ (List.mem_of_getElem? (i := 0) rfl))⟩
theorem jq_12_478 : jeOK (jcn 12) 478 (0, 12, 64, 0) := ⟨_, rfl, by decide, (jin_54 _ (List.mem_of_getElem? (i := 12) rfl))⟩
theorem jq_12_481 : jeOK (jcn 12) 481 (0, 12, 65, 0) := ⟨_, rfl, by decide, (jin_54 _ (List.mem_of_getElem? (i := 13) rfl))⟩
theorem jq_12_484 : jeOK (jcn 12) 484 (0, 12, 66, 0) := ⟨_, rfl, by decide, (jin_54 _ (List.mem_of_getElem? (i := 14) rfl))⟩
theorem jq_12_487 : jeOK (jcn 12) 487 (1, 243, 0, 0) := ⟨_, rfl, (jin_55 _ (List.mem_of_getElem? (i := 2) rfl)), (jin_55 _ (List.mem_of_getElem? (i := 3) rfl)), (jin_55 _ (List.mem_of_getElem? (i := 4) rfl))⟩
theorem jq_12_490 : jeOK (jcn 12) 490 (1, 241, 0, 0) := ⟨_, rfl, (jin_54 _ (List.mem_of_getElem? (i := 15) rfl)), (jin_54 _ (List.mem_of_getElem? (i := 16) rfl)), (jin_54 _ (List.mem_of_getElem? (i := 17) rfl))⟩
theorem jq_12_493 : jeOK (jcn 12) 493 (2, 255, 0, 0) := ⟨_, rfl, (jin_57 _ (List.mem_of_getElem? (i := 4) rfl)), (jin_57 _ (List.mem_of_getElem? (i := 5) rfl))⟩
theorem jq_12_496 : jeOK (jcn 12) 496 (1, 256, 0, 0) := ⟨_, rfl, (jin_57 _ (List.mem_of_getElem? (i := 7) rfl)), (jin_57 _ (List.mem_of_getElem? (i := 8) rfl)), (jin_57 _ (List.mem_of_getElem? (i := 9) rfl))⟩
theorem jq_12_500 : jeOK (jcn 12) 500 (1, 254, 0, 0) := ⟨_, rfl, (jin_57 _ (List.mem_of_getElem? (i := 0) rfl)), (jin_57 _ (List.mem_of_getElem? (i := 1) rfl)), (jin_57 _ (List.mem_of_getElem? (i := 2) rfl))⟩
theorem jq_12_504 : jeOK (jcn 12) 504 (0, 12, 74, 0) := ⟨_, rfl, by decide, (jin_60 _ (List.mem_of_getElem? (i := 23) rfl))⟩
theorem jq_12_507 : jeOK (jcn 12) 507 (1, 291, 0, 0) := ⟨_, rfl, (jin_63 _ (List.mem_of_getElem? (i := 18) rfl)), (jin_63 _ (List.mem_of_getElem? (i := 19) rfl)), (jin_63 _ (List.mem_of_getElem? (i := 20) rfl))⟩
theorem jq_12_511 : jeOK (jcn 12) 511 (1, 290, 0, 0) := ⟨_, rfl, (jin_63 _ (List.mem_of_getElem? (i := 14) rfl)), (jin_63 _ (List.mem_of_getElem? (i := 15) rfl)), (jin_63 _ (List.mem_of_getElem? (i := 16) rfl))⟩
theorem jq_12_514 : jeOK (jcn 12) 514 (0, 12, 83, 0) := ⟨_, rfl, by decide, (jin_63 _ (List.mem_of_getElem? (i := 12) rfl))⟩
theorem jq_12_517 : jeOK (jcn 12) 517 (0, 12, 84, 0) := ⟨_, rfl, by decide, (jin_63 _ (List.mem_of_getElem? (i := 13) rfl))⟩
theorem jq_12_520 : jeOK (jcn 12) 520 (1, 287, 0, 0) := ⟨_, rfl, (jin_63 _ (List.mem_of_getElem? (i := 0) rfl)), (jin_63 _ (List.mem_of_getElem? (i := 1) rfl)), (jin_63 _ (List.mem_of_getElem? (i := 2) rfl))⟩
theorem jq_12_523 : jeOK (jcn 12) 523 (1, 288, 0, 0) := ⟨_, rfl, (jin_63 _ (List.mem_of_getElem? (i := 4) rfl)), (jin_63 _ (List.mem_of_getElem? (i := 5) rfl)), (jin_63 _ (List.mem_of_getElem? (i := 6) rfl))⟩
theorem jq_12_526 : jeOK (jcn 12) 526 (1, 289, 0, 0) := ⟨_, rfl, (jin_63 _ (List.mem_of_getElem? (i := 8) rfl)), (jin_63 _ (List.mem_of_getElem? (i := 9) rfl)), (jin_63 _ (List.mem_of_getElem? (i := 10) rfl))⟩
theorem jo_12 : jall (jeOK (jcn 12)) 0 jp_12 := ⟨⟨jq_12_1, jq_12_7, jq_12_13, trivial⟩, ⟨jq_12_17, jq_12_21, jq_12_25, jq_12_28, jq_12_31, trivial⟩, ⟨jq_12_34, jq_12_37, jq_12_40, jq_12_43, jq_12_46, trivial⟩, ⟨jq_12_49, jq_12_52, jq_12_55, jq_12_58, jq_12_61, trivial⟩, ⟨jq_12_64, jq_12_67, jq_12_70, jq_12_73, jq_12_76, jq_12_79, trivial⟩, ⟨jq_12_82, jq_12_85, jq_12_88, jq_12_92, jq_12_95, trivial⟩, ⟨jq_12_98, jq_12_101, jq_12_104, jq_12_107, jq_12_110, trivial⟩, ⟨jq_12_113, jq_12_116, jq_12_119, jq_12_122, jq_12_125, trivial⟩, ⟨jq_12_128, jq_12_131, jq_12_134, jq_12_137, jq_12_140, jq_12_143, trivial⟩, ⟨jq_12_146, jq_12_149, jq_12_152, jq_12_155, jq_12_158, trivial⟩, ⟨jq_12_161, jq_12_164, jq_12_167, jq_12_170, jq_12_173, jq_12_175, trivial⟩, ⟨jq_12_177, jq_12_179, jq_12_181, jq_12_184, jq_12_188, trivial⟩, ⟨jq_12_192, jq_12_195, jq_12_198, jq_12_202, jq_12_206, trivial⟩, ⟨jq_12_210, jq_12_214, jq_12_217, jq_12_218, jq_12_222, trivial⟩, ⟨jq_12_226, jq_12_229, jq_12_232, jq_12_235, jq_12_238, trivial⟩, ⟨jq_12_241, jq_12_244, jq_12_248, jq_12_251, jq_12_254, trivial⟩, ⟨jq_12_257, jq_12_259, jq_12_261, jq_12_263, jq_12_265, jq_12_267, jq_12_269, jq_12_271, trivial⟩, ⟨jq_12_273, jq_12_275, jq_12_277, jq_12_279, jq_12_282, jq_12_285, trivial⟩, ⟨jq_12_289, jq_12_293, jq_12_296, jq_12_299, jq_12_302, trivial⟩, ⟨jq_12_305, jq_12_308, jq_12_311, jq_12_314, jq_12_317, trivial⟩, ⟨jq_12_320, jq_12_323, jq_12_326, jq_12_330, jq_12_333, trivial⟩, ⟨jq_12_337, jq_12_341, jq_12_344, jq_12_347, jq_12_350, trivial⟩, ⟨jq_12_353, jq_12_356, jq_12_359, jq_12_362, jq_12_365, trivial⟩, ⟨jq_12_368, jq_12_371, jq_12_374, jq_12_377, jq_12_380, jq_12_383, trivial⟩, ⟨jq_12_386, jq_12_389, jq_12_392, jq_12_395, jq_12_398, trivial⟩, ⟨jq_12_401, jq_12_404, jq_12_408, jq_12_411, jq_12_414, trivial⟩, ⟨jq_12_417, jq_12_420, jq_12_423, jq_12_426, jq_12_429, trivial⟩, ⟨jq_12_432, jq_12_436, jq_12_439, jq_12_442, jq_12_445, trivial⟩, ⟨jq_12_448, jq_12_451, jq_12_454, jq_12_457, jq_12_460, jq_12_463, trivial⟩, ⟨jq_12_466, jq_12_469, jq_12_472, jq_12_475, jq_12_478, trivial⟩, ⟨jq_12_481, jq_12_484, jq_12_487, jq_12_490, jq_12_493, trivial⟩, ⟨jq_12_496, jq_12_500, jq_12_504, jq_12_507, jq_12_511, trivial⟩, ⟨jq_12_514, jq_12_517, jq_12_520, jq_12_523, jq_12_526, trivial⟩, trivial⟩
theorem jq_13_9 : jeOK (jcn 13) 9 (12, 0, 0, 0) := (jin_4 _ (List.mem_of_getElem? (i := 20) rfl))
theorem jq_13_15 : jeOK (jcn 13) 15 (12, 1, 0, 0) := (jin_5 _ (List.mem_of_getElem? (i := 2) rfl))
theorem jq_13_38 : jeOK (jcn 13) 38 (11, 1, 0, 0) := (jin_5 _ (List.mem_of_getElem? (i := 1) rfl))
theorem jq_13_335 : jeOK (jcn 13) 335 (1, 9, 0, 0) := ⟨_, rfl, (jin_4 _ (List.mem_of_getElem? (i := 21) rfl)), (jin_4 _ (List.mem_of_getElem? (i := 22) rfl)), (jin_4 _ (List.mem_of_getElem? (i := 23) rfl))⟩
theorem jq_13_492 : jeOK (jcn 13) 492 (1, 11, 0, 0) := ⟨_, rfl, (jin_5 _ (List.mem_of_getElem? (i := 7) rfl)), (jin_5 _ (List.mem_of_getElem? (i := 8) rfl)), (jin_5 _ (List.mem_of_getElem? (i := 9) rfl))⟩
theorem jq_13_495 : jeOK (jcn 13) 495 (2, 12, 0, 0) := ⟨_, rfl, (jin_5 _ (List.mem_of_getElem? (i := 11) rfl)), (jin_5 _ (List.mem_of_getElem? (i := 12) rfl))⟩
theorem jq_13_498 : jeOK (jcn 13) 498 (2, 15, 0, 0) := ⟨_, rfl, (jin_5 _ (List.mem_of_getElem? (i := 23) rfl)), (jin_6 _ (List.mem_of_getElem? (i := 0) rfl))⟩
theorem jq_13_1053 : jeOK (jcn 13) 1053 (11, 2, 0, 0) := (jin_5 _ (List.mem_of_getElem? (i := 18) rfl))
theorem jq_13_1059 : jeOK (jcn 13) 1059 (2, 14, 0, 0) := ⟨_, rfl, (jin_5 _ (List.mem_of_getElem? (i := 19) rfl)), (jin_5 _ (List.mem_of_getElem? (i := 20) rfl))⟩
theorem jo_13 : jall (jeOK (jcn 13)) 0 jp_13 := ⟨⟨jq_13_9, jq_13_15, trivial⟩, trivial, ⟨jq_13_38, trivial⟩, trivial, trivial, trivial, trivial, trivial, trivial, trivial, trivial, trivial, trivial, trivial, trivial, trivial, trivial, trivial, trivial, trivial, ⟨jq_13_335, trivial⟩, trivial, trivial, trivial, trivial, trivial, trivial, trivial, trivial, trivial, ⟨jq_13_492, jq_13_495, trivial⟩, ⟨jq_13_498, trivial⟩, trivial, trivial, trivial, trivial, trivial, trivial, trivial, trivial, trivial, trivial, trivial, trivial, trivial, trivial, trivial, trivial, trivial, trivial, trivial, trivial, trivial, trivial, trivial, trivial, trivial, trivial, trivial, trivial, trivial, trivial, trivial, trivial, trivial, ⟨jq_13_1053, trivial⟩, ⟨jq_13_1059, trivial⟩, trivial⟩
theorem jq_14_9 : jeOK (jcn 14) 9 (2, 13, 0, 0) := ⟨_, rfl, (jin_5 _ (List.mem_of_getElem? (i := 15) rfl)), (jin_5 _ (List.mem_of_getElem? (i := 16) rfl))⟩
theorem jo_14 : jall (jeOK (jcn 14)) 0 jp_14 := ⟨⟨jq_14_9, trivial⟩, trivial⟩
theorem jq_15_48 : jeOK (jcn 15) 48 (2, 17, 0, 0) := ⟨_, rfl, (jin_6 _ (List.mem_of_getElem? (i := 6) rfl)), (jin_6 _ (List.mem_of_getElem? (i := 7) rfl))⟩
theorem jq_15_67 : jeOK (jcn 15) 67 (2, 16, 0, 0) := ⟨_, rfl, (jin_6 _ (List.mem_of_getElem? (i := 3) rfl)), (jin_6 _ (List.mem_of_getElem? (i := 4) rfl))⟩
theorem jq_15_71 : jeOK (jcn 15) 71 (2, 18, 0, 0) := ⟨_, rfl, (jin_6 _ (List.mem_of_getElem? (i := 10) rfl)), (jin_6 _ (List.mem_of_getElem? (i := 11) rfl))⟩
theorem jq_15_414 : jeOK (jcn 15) 414 (2, 13, 0, 0) := ⟨_, rfl, (jin_6 _ (List.mem_of_getElem? (i := 9) rfl)), (jin_5 _ (List.mem_of_getElem? (i := 16) rfl))⟩
theorem jo_15 : jall (jeOK (jcn 15)) 0 jp_15 := ⟨trivial, trivial, trivial, ⟨jq_15_48, trivial⟩, ⟨jq_15_67, jq_15_71, trivial⟩, trivial, trivial, trivial, trivial, trivial, trivial, trivial, trivial, trivial, trivial, trivial, trivial, trivial, trivial, trivial, trivial, trivial, trivial, trivial, trivial, ⟨jq_15_414, trivial⟩, trivial⟩
theorem jq_19_7 : jeOK (jcn 19) 7 (10, 11, 0, 0) := ⟨_, rfl, (jin_1 _ (List.mem_of_getElem? (i := 0) rfl))⟩
theorem jq_19_9 : jeOK (jcn 19) 9 (3, 0, 0, 0) := ⟨_, rfl, (jin_1 _ (List.mem_of_getElem? (i := 6) rfl)), (jin_1 _ (List.mem_of_getElem? (i := 7) rfl)), rfl, rfl⟩
theorem jq_19_10 : jeOK (jcn 19) 10 (10, 12, 0, 0) := ⟨_, rfl, (jin_1 _ (List.mem_of_getElem? (i := 3) rfl))⟩
theorem jq_19_12 : jeOK (jcn 19) 12 (3, 28, 0, 0) := ⟨_, rfl, (jin_10 _ (List.mem_of_getElem? (i := 10) rfl)), (jin_10 _ (List.mem_of_getElem? (i := 11) rfl)), rfl, rfl⟩
theorem jq_19_13 : jeOK (jcn 19) 13 (1, 29, 0, 0) := ⟨_, rfl, (jin_13 _ (List.mem_of_getElem? (i := 0) rfl)), (jin_13 _ (List.mem_of_getElem? (i := 1) rfl)), (jin_13 _ (List.mem_of_getElem? (i := 2) rfl))⟩
theorem jq_19_17 : jeOK (jcn 19) 17 (1, 32, 0, 0) := ⟨_, rfl, (jin_13 _ (List.mem_of_getElem? (i := 14) rfl)), (jin_13 _ (List.mem_of_getElem? (i := 15) rfl)), (jin_13 _ (List.mem_of_getElem? (i := 16) rfl))⟩
theorem jq_19_18 : jeOK (jcn 19) 18 (1, 34, 0, 0) := ⟨_, rfl, (jin_13 _ (List.mem_of_getElem? (i := 23) rfl)), (jin_14 _ (List.mem_of_getElem? (i := 0) rfl)), (jin_14 _ (List.mem_of_getElem? (i := 1) rfl))⟩
theorem jq_19_22 : jeOK (jcn 19) 22 (1, 35, 0, 0) := ⟨_, rfl, (jin_14 _ (List.mem_of_getElem? (i := 3) rfl)), (jin_14 _ (List.mem_of_getElem? (i := 4) rfl)), (jin_14 _ (List.mem_of_getElem? (i := 5) rfl))⟩
theorem jq_19_23 : jeOK (jcn 19) 23 (1, 36, 0, 0) := ⟨_, rfl, (jin_14 _ (List.mem_of_getElem? (i := 7) rfl)), (jin_14 _ (List.mem_of_getElem? (i := 8) rfl)), (jin_14 _ (List.mem_of_getElem? (i := 9) rfl))⟩
theorem jq_19_27 : jeOK (jcn 19) 27 (1, 68, 0, 0) := ⟨_, rfl, (jin_20 _ (List.mem_of_getElem? (i := 9) rfl)), (jin_20 _ (List.mem_of_getElem? (i := 10) rfl)), (jin_20 _ (List.mem_of_getElem? (i := 11) rfl))⟩
theorem jq_19_28 : jeOK (jcn 19) 28 (1, 92, 0, 0) := ⟨_, rfl, (jin_25 _ (List.mem_of_getElem? (i := 3) rfl)), (jin_25 _ (List.mem_of_getElem? (i := 4) rfl)), (jin_25 _ (List.mem_of_getElem? (i := 5) rfl))⟩
theorem jq_19_31 : jeOK (jcn 19) 31 (1, 93, 0, 0) := ⟨_, rfl, (jin_25 _ (List.mem_of_getElem? (i := 7) rfl)), (jin_25 _ (List.mem_of_getElem? (i := 8) rfl)), (jin_25 _ (List.mem_of_getElem? (i := 9) rfl))⟩
theorem jq_19_32 : jeOK (jcn 19) 32 (1, 94, 0, 0) := ⟨_, rfl, (jin_25 _ (List.mem_of_getElem? (i := 11) rfl)), (jin_25 _ (List.mem_of_getElem? (i := 12) rfl)), (jin_25 _ (List.mem_of_getElem? (i := 13) rfl))⟩
theorem jq_19_35 : jeOK (jcn 19) 35 (1, 96, 0, 0) := ⟨_, rfl, (jin_25 _ (List.mem_of_getElem? (i := 19) rfl)), (jin_25 _ (List.mem_of_getElem? (i := 20) rfl)), (jin_25 _ (List.mem_of_getElem? (i := 21) rfl))⟩
theorem jq_19_36 : jeOK (jcn 19) 36 (1, 98, 0, 0) := ⟨_, rfl, (jin_26 _ (List.mem_of_getElem? (i := 2) rfl)), (jin_26 _ (List.mem_of_getElem? (i := 3) rfl)), (jin_26 _ (List.mem_of_getElem? (i := 4) rfl))⟩
theorem jq_19_39 : jeOK (jcn 19) 39 (1, 100, 0, 0) := ⟨_, rfl, (jin_26 _ (List.mem_of_getElem? (i := 15) rfl)), (jin_26 _ (List.mem_of_getElem? (i := 16) rfl)), (jin_26 _ (List.mem_of_getElem? (i := 17) rfl))⟩
theorem jq_19_40 : jeOK (jcn 19) 40 (1, 101, 0, 0) := ⟨_, rfl, (jin_26 _ (List.mem_of_getElem? (i := 20) rfl)), (jin_26 _ (List.mem_of_getElem? (i := 21) rfl)), (jin_26 _ (List.mem_of_getElem? (i := 22) rfl))⟩
theorem jq_19_44 : jeOK (jcn 19) 44 (1, 104, 0, 0) := ⟨_, rfl, (jin_27 _ (List.mem_of_getElem? (i := 10) rfl)), (jin_27 _ (List.mem_of_getElem? (i := 11) rfl)), (jin_27 _ (List.mem_of_getElem? (i := 12) rfl))⟩
theorem jq_19_45 : jeOK (jcn 19) 45 (1, 106, 0, 0) := ⟨_, rfl, (jin_27 _ (List.mem_of_getElem? (i := 18) rfl)), (jin_27 _ (List.mem_of_getElem? (i := 19) rfl)), (jin_27 _ (List.mem_of_getElem? (i := 20) rfl))⟩
theorem jq_19_49 : jeOK (jcn 19) 49 (1, 110, 0, 0) := ⟨_, rfl, (jin_28 _ (List.mem_of_getElem? (i := 10) rfl)), (jin_28 _ (List.mem_of_getElem? (i := 11) rfl)), (jin_28 _ (List.mem_of_getElem? (i := 12) rfl))⟩
theorem jq_19_50 : jeOK (jcn 19) 50 (1, 112, 0, 0) := ⟨_, rfl, (jin_28 _ (List.mem_of_getElem? (i := 18) rfl)), (jin_28 _ (List.mem_of_getElem? (i := 19) rfl)), (jin_28 _ (List.mem_of_getElem? (i := 20) rfl))⟩
theorem jq_19_54 : jeOK (jcn 19) 54 (1, 113, 0, 0) := ⟨_, rfl, (jin_29 _ (List.mem_of_getElem? (i := 0) rfl)), (jin_29 _ (List.mem_of_getElem? (i := 1) rfl)), (jin_29 _ (List.mem_of_getElem? (i := 2) rfl))⟩
theorem jq_19_55 : jeOK (jcn 19) 55 (1, 114, 0, 0) := ⟨_, rfl, (jin_29 _ (List.mem_of_getElem? (i := 4) rfl)), (jin_29 _ (List.mem_of_getElem? (i := 5) rfl)), (jin_29 _ (List.mem_of_getElem? (i := 6) rfl))⟩
theorem jq_19_59 : jeOK (jcn 19) 59 (1, 118, 0, 0) := ⟨_, rfl, (jin_29 _ (List.mem_of_getElem? (i := 19) rfl)), (jin_29 _ (List.mem_of_getElem? (i := 20) rfl)), (jin_29 _ (List.mem_of_getElem? (i := 21) rfl))⟩
theorem jq_19_60 : jeOK (jcn 19) 60 (1, 123, 0, 0) := ⟨_, rfl, (jin_30 _ (List.mem_of_getElem? (i := 14) rfl)), (jin_30 _ (List.mem_of_getElem? (i := 15) rfl)), (jin_30 _ (List.mem_of_getElem? (i := 16) rfl))⟩
theorem jq_19_63 : jeOK (jcn 19) 63 (1, 131, 0, 0) := ⟨_, rfl, (jin_32 _ (List.mem_of_getElem? (i := 1) rfl)), (jin_32 _ (List.mem_of_getElem? (i := 2) rfl)), (jin_32 _ (List.mem_of_getElem? (i := 3) rfl))⟩
theorem jq_19_64 : jeOK (jcn 19) 64 (1, 134, 0, 0) := ⟨_, rfl, (jin_32 _ (List.mem_of_getElem? (i := 13) rfl)), (jin_32 _ (List.mem_of_getElem? (i := 14) rfl)), (jin_32 _ (List.mem_of_getElem? (i := 15) rfl))⟩
theorem jq_19_68 : jeOK (jcn 19) 68 (1, 137, 0, 0) := ⟨_, rfl, (jin_33 _ (List.mem_of_getElem? (i := 6) rfl)), (jin_33 _ (List.mem_of_getElem? (i := 7) rfl)), (jin_33 _ (List.mem_of_getElem? (i := 8) rfl))⟩
theorem jq_19_69 : jeOK (jcn 19) 69 (1, 138, 0, 0) := ⟨_, rfl, (jin_33 _ (List.mem_of_getElem? (i := 14) rfl)), (jin_33 _ (List.mem_of_getElem? (i := 15) rfl)), (jin_33 _ (List.mem_of_getElem? (i := 16) rfl))⟩
theorem jq_19_73 : jeOK (jcn 19) 73 (1, 145, 0, 0) := ⟨_, rfl, (jin_34 _ (List.mem_of_getElem? (i := 23) rfl)), (jin_35 _ (List.mem_of_getElem? (i := 0) rfl)), (jin_35 _ (List.mem_of_getElem? (i := 1) rfl))⟩
theorem jq_19_74 : jeOK (jcn 19) 74 (1, 149, 0, 0) := ⟨_, rfl, (jin_35 _ (List.mem_of_getElem? (i := 13) rfl)), (jin_35 _ (List.mem_of_getElem? (i := 14) rfl)), (jin_35 _ (List.mem_of_getElem? (i := 15) rfl))⟩
theorem jq_19_77 : jeOK (jcn 19) 77 (1, 152, 0, 0) := ⟨_, rfl, (jin_36 _ (List.mem_of_getElem? (i := 4) rfl)), (jin_36 _ (List.mem_of_getElem? (i := 5) rfl)), (jin_36 _ (List.mem_of_getElem? (i := 6) rfl))⟩
theorem jq_19_78 : jeOK (jcn 19) 78 (1, 154, 0, 0) := ⟨_, rfl, (jin_36 _ (List.mem_of_getElem? (i := 12) rfl)), (jin_36 _ (List.mem_of_getElem? (i := 13) rfl)), (jin_36 _ (List.mem_of_getElem? (i := 14) rfl))⟩
theorem jq_19_82 : jeOK (jcn 19) 82 (1, 155, 0, 0) := ⟨_, rfl, (jin_36 _ (List.mem_of_getElem? (i := 17) rfl)), (jin_36 _ (List.mem_of_getElem? (i := 18) rfl)), (jin_36 _ (List.mem_of_getElem? (i := 19) rfl))⟩
theorem jq_19_83 : jeOK (jcn 19) 83 (1, 156, 0, 0) := ⟨_, rfl, (jin_36 _ (List.mem_of_getElem? (i := 21) rfl)), (jin_36 _ (List.mem_of_getElem? (i := 22) rfl)), (jin_36 _ (List.mem_of_getElem? (i := 23) rfl))⟩
theorem jq_19_87 : jeOK (jcn 19) 87 (1, 158, 0, 0) := ⟨_, rfl, (jin_37 _ (List.mem_of_getElem? (i := 6) rfl)), (jin_37 _ (List.mem_of_getElem? (i := 7) rfl)), (jin_37 _ (List.mem_of_getElem? (i := 8) rfl))⟩
theorem jq_19_88 : jeOK (jcn 19) 88 (1, 160, 0, 0) := ⟨_, rfl, (jin_37 _ (List.mem_of_getElem? (i := 14) rfl)), (jin_37 _ (List.mem_of_getElem? (i := 15) rfl)), (jin_37 _ (List.mem_of_getElem? (i := 16) rfl))⟩
theorem jq_19_91 : jeOK (jcn 19) 91 (1, 161, 0, 0) := ⟨_, rfl, (jin_37 _ (List.mem_of_getElem? (i := 21) rfl)), (jin_37 _ (List.mem_of_getElem? (i := 22) rfl)), (jin_37 _ (List.mem_of_getElem? (i := 23) rfl))⟩
theorem jq_19_92 : jeOK (jcn 19) 92 (1, 162, 0, 0) := ⟨_, rfl, (jin_38 _ (List.mem_of_getElem? (i := 1) rfl)), (jin_38 _ (List.mem_of_getElem? (i := 2) rfl)), (jin_38 _ (List.mem_of_getElem? (i := 3) rfl))⟩
theorem jq_19_95 : jeOK (jcn 19) 95 (1, 196, 0, 0) := ⟨_, rfl, (jin_45 _ (List.mem_of_getElem? (i := 13) rfl)), (jin_45 _ (List.mem_of_getElem? (i := 14) rfl)), (jin_45 _ (List.mem_of_getElem? (i := 15) rfl))⟩
theorem jq_19_96 : jeOK (jcn 19) 96 (1, 217, 0, 0) := ⟨_, rfl, (jin_49 _ (List.mem_of_getElem? (i := 8) rfl)), (jin_49 _ (List.mem_of_getElem? (i := 9) rfl)), (jin_49 _ (List.mem_of_getElem? (i := 10) rfl))⟩
theorem jq_19_99 : jeOK (jcn 19) 99 (1, 218, 0, 0) := ⟨_, rfl, (jin_49 _ (List.mem_of_getElem? (i := 13) rfl)), (jin_49 _ (List.mem_of_getElem? (i := 14) rfl)), (jin_49 _ (List.mem_of_getElem? (i := 15) rfl))⟩
theorem jq_19_100 : jeOK (jcn 19) 100 (1, 219, 0, 0) := ⟨_, rfl, (jin_49 _ (List.mem_of_getElem? (i := 17) rfl)), (jin_49 _ (List.mem_of_getElem? (i := 18) rfl)), (jin_49 _ (List.mem_of_getElem? (i := 19) rfl))⟩
theorem jq_19_103 : jeOK (jcn 19) 103 (1, 220, 0, 0) := ⟨_, rfl, (jin_49 _ (List.mem_of_getElem? (i := 22) rfl)), (jin_49 _ (List.mem_of_getElem? (i := 23) rfl)), (jin_50 _ (List.mem_of_getElem? (i := 0) rfl))⟩
theorem jq_19_104 : jeOK (jcn 19) 104 (1, 221, 0, 0) := ⟨_, rfl, (jin_50 _ (List.mem_of_getElem? (i := 2) rfl)), (jin_50 _ (List.mem_of_getElem? (i := 3) rfl)), (jin_50 _ (List.mem_of_getElem? (i := 4) rfl))⟩
theorem jq_19_107 : jeOK (jcn 19) 107 (1, 222, 0, 0) := ⟨_, rfl, (jin_50 _ (List.mem_of_getElem? (i := 7) rfl)), (jin_50 _ (List.mem_of_getElem? (i := 8) rfl)), (jin_50 _ (List.mem_of_getElem? (i := 9) rfl))⟩
theorem jq_19_108 : jeOK (jcn 19) 108 (1, 223, 0, 0) := ⟨_, rfl, (jin_50 _ (List.mem_of_getElem? (i := 11) rfl)), (jin_50 _ (List.mem_of_getElem? (i := 12) rfl)), (jin_50 _ (List.mem_of_getElem? (i := 13) rfl))⟩
theorem jq_19_111 : jeOK (jcn 19) 111 (1, 226, 0, 0) := ⟨_, rfl, (jin_51 _ (List.mem_of_getElem? (i := 0) rfl)), (jin_51 _ (List.mem_of_getElem? (i := 1) rfl)), (jin_51 _ (List.mem_of_getElem? (i := 2) rfl))⟩
theorem jq_19_112 : jeOK (jcn 19) 112 (1, 227, 0, 0) := ⟨_, rfl, (jin_51 _ (List.mem_of_getElem? (i := 4) rfl)), (jin_51 _ (List.mem_of_getElem? (i := 5) rfl)), (jin_51 _ (List.mem_of_getElem? (i := 6) rfl))⟩
theorem jq_19_116 : jeOK (jcn 19) 116 (1, 229, 0, 0) := ⟨_, rfl, (jin_51 _ (List.mem_of_getElem? (i := 14) rfl)), (jin_51 _ (List.mem_of_getElem? (i := 15) rfl)), (jin_51 _ (List.mem_of_getElem? (i := 16) rfl))⟩
theorem jq_19_117 : jeOK (jcn 19) 117 (1, 230, 0, 0) := ⟨_, rfl, (jin_51 _ (List.mem_of_getElem? (i := 19) rfl)), (jin_51 _ (List.mem_of_getElem? (i := 20) rfl)), (jin_51 _ (List.mem_of_getElem? (i := 21) rfl))⟩
theorem jq_19_120 : jeOK (jcn 19) 120 (1, 232, 0, 0) := ⟨_, rfl, (jin_52 _ (List.mem_of_getElem? (i := 3) rfl)), (jin_52 _ (List.mem_of_getElem? (i := 4) rfl)), (jin_52 _ (List.mem_of_getElem? (i := 5) rfl))⟩
theorem jq_19_121 : jeOK (jcn 19) 121 (1, 233, 0, 0) := ⟨_, rfl, (jin_52 _ (List.mem_of_getElem? (i := 7) rfl)), (jin_52 _ (List.mem_of_getElem? (i := 8) rfl)), (jin_52 _ (List.mem_of_getElem? (i := 9) rfl))⟩
theorem jq_19_124 : jeOK (jcn 19) 124 (1, 240, 0, 0) := ⟨_, rfl, (jin_54 _ (List.mem_of_getElem? (i := 8) rfl)), (jin_54 _ (List.mem_of_getElem? (i := 9) rfl)), (jin_54 _ (List.mem_of_getElem? (i := 10) rfl))⟩
theorem jq_19_125 : jeOK (jcn 19) 125 (1, 245, 0, 0) := ⟨_, rfl, (jin_55 _ (List.mem_of_getElem? (i := 10) rfl)), (jin_55 _ (List.mem_of_getElem? (i := 11) rfl)), (jin_55 _ (List.mem_of_getElem? (i := 12) rfl))⟩
theorem jq_19_128 : jeOK (jcn 19) 128 (1, 247, 0, 0) := ⟨_, rfl, (jin_55 _ (List.mem_of_getElem? (i := 19) rfl)), (jin_55 _ (List.mem_of_getElem? (i := 20) rfl)), (jin_55 _ (List.mem_of_getElem? (i := 21) rfl))⟩
theorem jq_19_129 : jeOK (jcn 19) 129 (1, 248, 0, 0) := ⟨_, rfl, (jin_55 _ (List.mem_of_getElem? (i := 23) rfl)), (jin_56 _ (List.mem_of_getElem? (i := 0) rfl)), (jin_56 _ (List.mem_of_getElem? (i := 1) rfl))⟩
theorem jq_19_132 : jeOK (jcn 19) 132 (1, 253, 0, 0) := ⟨_, rfl, (jin_56 _ (List.mem_of_getElem? (i := 20) rfl)), (jin_56 _ (List.mem_of_getElem? (i := 21) rfl)), (jin_56 _ (List.mem_of_getElem? (i := 22) rfl))⟩
theorem jq_19_133 : jeOK (jcn 19) 133 (1, 257, 0, 0) := ⟨_, rfl, (jin_57 _ (List.mem_of_getElem? (i := 11) rfl)), (jin_57 _ (List.mem_of_getElem? (i := 12) rfl)), (jin_57 _ (List.mem_of_getElem? (i := 13) rfl))⟩
theorem jq_19_136 : jeOK (jcn 19) 136 (1, 259, 0, 0) := ⟨_, rfl, (jin_57 _ (List.mem_of_getElem? (i := 20) rfl)), (jin_57 _ (List.mem_of_getElem? (i := 21) rfl)), (jin_57 _ (List.mem_of_getElem? (i := 22) rfl))⟩
theorem jq_19_137 : jeOK (jcn 19) 137 (1, 260, 0, 0) := ⟨_, rfl, (jin_58 _ (List.mem_of_getElem? (i := 0) rfl)), (jin_58 _ (List.mem_of_getElem? (i := 1) rfl)), (jin_58 _ (List.mem_of_getElem? (i := 2) rfl))⟩
theorem jq_19_140 : jeOK (jcn 19) 140 (1, 262, 0, 0) := ⟨_, rfl, (jin_58 _ (List.mem_of_getElem? (i := 8) rfl)), (jin_58 _ (List.mem_of_getElem? (i := 9) rfl)), (jin_58 _ (List.mem_of_getElem? (i := 10) rfl))⟩
theorem jq_19_141 : jeOK (jcn 19) 141 (1, 263, 0, 0) := ⟨_, rfl, (jin_58 _ (List.mem_of_getElem? (i := 12) rfl)), (jin_58 _ (List.mem_of_getElem? (i := 13) rfl)), (jin_58 _ (List.mem_of_getElem? (i := 14) rfl))⟩
theorem jq_19_144 : jeOK (jcn 19) 144 (1, 266, 0, 0) := ⟨_, rfl, (jin_59 _ (List.mem_of_getElem? (i := 8) rfl)), (jin_59 _ (List.mem_of_getElem? (i := 9) rfl)), (jin_59 _ (List.mem_of_getElem? (i := 10) rfl))⟩
theorem jq_19_145 : jeOK (jcn 19) 145 (1, 267, 0, 0) := ⟨_, rfl, (jin_59 _ (List.mem_of_getElem? (i := 12) rfl)), (jin_59 _ (List.mem_of_getElem? (i := 13) rfl)), (jin_59 _ (List.mem_of_getElem? (i := 14) rfl))⟩
theorem jq_19_148 : jeOK (jcn 19) 148 (1, 270, 0, 0) := ⟨_, rfl, (jin_59 _ (List.mem_of_getElem? (i := 22) rfl)), (jin_59 _ (List.mem_of_getElem? (i := 23) rfl)), (jin_60 _ (List.mem_of_getElem? (i := 0) rfl))⟩
theorem jq_19_149 : jeOK (jcn 19) 149 (1, 271, 0, 0) := ⟨_, rfl, (jin_60 _ (List.mem_of_getElem? (i := 2) rfl)), (jin_60 _ (List.mem_of_getElem? (i := 3) rfl)), (jin_60 _ (List.mem_of_getElem? (i := 4) rfl))⟩
theorem jq_19_153 : jeOK (jcn 19) 153 (1, 275, 0, 0) := ⟨_, rfl, (jin_60 _ (List.mem_of_getElem? (i := 19) rfl)), (jin_60 _ (List.mem_of_getElem? (i := 20) rfl)), (jin_60 _ (List.mem_of_getElem? (i := 21) rfl))⟩
theorem jq_19_154 : jeOK (jcn 19) 154 (1, 276, 0, 0) := ⟨_, rfl, (jin_61 _ (List.mem_of_getElem? (i := 0) rfl)), (jin_61 _ (List.mem_of_getElem? (i := 1) rfl)), (jin_61 _ (List.mem_of_getElem? (i := 2) rfl))⟩
theorem jq_19_157 : jeOK (jcn 19) 157 (1, 278, 0, 0) := ⟨_, rfl, (jin_61 _ (List.mem_of_getElem? (i := 8) rfl)), (jin_61 _ (List.mem_of_getElem? (i := 9) rfl)), (jin_61 _ (List.mem_of_getElem? (i := 10) rfl))⟩
theorem jq_19_158 : jeOK (jcn 19) 158 (1, 279, 0, 0) := ⟨_, rfl, (jin_61 _ (List.mem_of_getElem? (i := 12) rfl)), (jin_61 _ (List.mem_of_getElem? (i := 13) rfl)), (jin_61 _ (List.mem_of_getElem? (i := 14) rfl))⟩
theorem jq_19_161 : jeOK (jcn 19) 161 (1, 286, 0, 0) := ⟨_, rfl, (jin_62 _ (List.mem_of_getElem? (i := 20) rfl)), (jin_62 _ (List.mem_of_getElem? (i := 21) rfl)), (jin_62 _ (List.mem_of_getElem? (i := 22) rfl))⟩
theorem jq_19_162 : jeOK (jcn 19) 162 (1, 292, 0, 0) := ⟨_, rfl, (jin_63 _ (List.mem_of_getElem? (i := 22) rfl)), (jin_63 _ (List.mem_of_getElem? (i := 23) rfl)), (jin_64 _ (List.mem_of_getElem? (i := 0) rfl))⟩
theorem jq_19_165 : jeOK (jcn 19) 165 (1, 295, 0, 0) := ⟨_, rfl, (jin_64 _ (List.mem_of_getElem? (i := 10) rfl)), (jin_64 _ (List.mem_of_getElem? (i := 11) rfl)), (jin_64 _ (List.mem_of_getElem? (i := 12) rfl))⟩
theorem jq_19_166 : jeOK (jcn 19) 166 (1, 296, 0, 0) := ⟨_, rfl, (jin_64 _ (List.mem_of_getElem? (i := 14) rfl)), (jin_64 _ (List.mem_of_getElem? (i := 15) rfl)), (jin_64 _ (List.mem_of_getElem? (i := 16) rfl))⟩
theorem jq_19_169 : jeOK (jcn 19) 169 (1, 298, 0, 0) := ⟨_, rfl, (jin_64 _ (List.mem_of_getElem? (i := 23) rfl)), (jin_65 _ (List.mem_of_getElem? (i := 0) rfl)), (jin_65 _ (List.mem_of_getElem? (i := 1) rfl))⟩
theorem jq_19_170 : jeOK (jcn 19) 170 (1, 299, 0, 0) := ⟨_, rfl, (jin_65 _ (List.mem_of_getElem? (i := 3) rfl)), (jin_65 _ (List.mem_of_getElem? (i := 4) rfl)), (jin_65 _ (List.mem_of_getElem? (i := 5) rfl))⟩
theorem jq_19_173 : jeOK (jcn 19) 173 (1, 301, 0, 0) := ⟨_, rfl, (jin_65 _ (List.mem_of_getElem? (i := 11) rfl)), (jin_65 _ (List.mem_of_getElem? (i := 12) rfl)), (jin_65 _ (List.mem_of_getElem? (i := 13) rfl))⟩
theorem jq_19_174 : jeOK (jcn 19) 174 (1, 302, 0, 0) := ⟨_, rfl, (jin_65 _ (List.mem_of_getElem? (i := 15) rfl)), (jin_65 _ (List.mem_of_getElem? (i := 16) rfl)), (jin_65 _ (List.mem_of_getElem? (i := 17) rfl))⟩
theorem jq_19_177 : jeOK (jcn 19) 177 (1, 303, 0, 0) := ⟨_, rfl, (jin_65 _ (List.mem_of_getElem? (i := 19) rfl)), (jin_65 _ (List.mem_of_getElem? (i := 20) rfl)), (jin_65 _ (List.mem_of_getElem? (i := 21) rfl))⟩
theorem jo_19 : jall (jeOK (jcn 19)) 0 jp_19 := ⟨⟨jq_19_7, jq_19_9, jq_19_10, jq_19_12, jq_19_13, trivial⟩, ⟨jq_19_17, jq_19_18, jq_19_22, jq_19_23, jq_19_27, jq_19_28, jq_19_31, trivial⟩, ⟨jq_19_32, jq_19_35, jq_19_36, jq_19_39, jq_19_40, jq_19_44, jq_19_45, trivial⟩, ⟨jq_19_49, jq_19_50, jq_19_54, jq_19_55, jq_19_59, jq_19_60, jq_19_63, trivial⟩, ⟨jq_19_64, jq_19_68, jq_19_69, jq_19_73, jq_19_74, jq_19_77, jq_19_78, trivial⟩, ⟨jq_19_82, jq_19_83, jq_19_87, jq_19_88, jq_19_91, jq_19_92, jq_19_95, trivial⟩, ⟨jq_19_96, jq_19_99, jq_19_100, jq_19_103, jq_19_104, jq_19_107, jq_19_108, jq_19_111, trivial⟩, ⟨jq_19_112, jq_19_116, jq_19_117, jq_19_120, jq_19_121, jq_19_124, jq_19_125, trivial⟩, ⟨jq_19_128, jq_19_129, jq_19_132, jq_19_133, jq_19_136, jq_19_137, jq_19_140, jq_19_141, trivial⟩, ⟨jq_19_144, jq_19_145, jq_19_148, jq_19_149, jq_19_153, jq_19_154, jq_19_157, jq_19_158, trivial⟩, ⟨jq_19_161, jq_19_162, jq_19_165, jq_19_166, jq_19_169, jq_19_170, jq_19_173, jq_19_174, trivial⟩, ⟨jq_19_177, trivial⟩, trivial⟩
/-- what the tables say of a method -/
def jmo (M : JM) : Prop := plainFor M.y = true ∧ Cond.code M.y M.bytes M.maxL M.ret ∈ wsL_law ∧ M.y.cls ≠ "java/lang/invoke/MethodHandle" ∧ M.y.cls ≠ "java/lang/invoke/VarHandle" ∧ (parseMethodDescriptor M.y.desc).map (fun d => d.parameters.length) = some M.np ∧ Cond.initialized M.y.cls ∈ wsL_law ∧ (M.ini = 1 → M.y.name = "<init>") ∧ jcn M.own = M.y.cls ∧ jdOK M.bytes 0 M.code = true ∧ M.maxL ≤ 21
theorem jmo_0 : jmo jm_X11_init := ⟨by decide +kernel, (jin_1 _ (List.mem_of_getElem? (i := 8) rfl)), by decide +kernel, by decide +kernel, by decide +kernel, (jin_1 _ (List.mem_of_getElem? (i := 2) rfl)), fun _ => rfl, rfl, jd_X11_init, by decide⟩
theorem jmo_1 : jmo jm_X3_init := ⟨by decide +kernel, (jin_3 _ (List.mem_of_getElem? (i := 2) rfl)), by decide +kernel, by decide +kernel, by decide +kernel, (jin_1 _ (List.mem_of_getElem? (i := 14) rfl)), fun _ => rfl, rfl, jd_X3_init, by decide⟩
theorem jmo_2 : jmo jm_X3_logarithm := ⟨by decide +kernel, (jin_3 _ (List.mem_of_getElem? (i := 10) rfl)), by decide +kernel, by decide +kernel, by decide +kernel, (jin_1 _ (List.mem_of_getElem? (i := 14) rfl)), fun h => absurd h (by decide), rfl, jd_X3_logarithm, by decide⟩
theorem jmo_3 : jmo jm_X3_folded := ⟨by decide +kernel, (jin_3 _ (List.mem_of_getElem? (i := 17) rfl)), by decide +kernel, by decide +kernel, by decide +kernel, (jin_1 _ (List.mem_of_getElem? (i := 14) rfl)), fun h => absurd h (by decide), rfl, jd_X3_folded, by decide⟩
theorem jmo_4 : jmo jm_J9_max := ⟨by decide +kernel, (jin_3 _ (List.mem_of_getElem? (i := 21) rfl)), by decide +kernel, by decide +kernel, by decide +kernel, (jin_34 _ (List.mem_of_getElem? (i := 9) rfl)), fun h => absurd h (by decide), rfl, jd_J9_max, by decide⟩
theorem jmo_5 : jmo jm_X2_init := ⟨by decide +kernel, (jin_4 _ (List.mem_of_getElem? (i := 0) rfl)), by decide +kernel, by decide +kernel, by decide +kernel, (jin_1 _ (List.mem_of_getElem? (i := 20) rfl)), fun _ => rfl, rfl, jd_X2_init, by decide⟩
theorem jmo_6 : jmo jm_X9_init := ⟨by decide +kernel, (jin_4 _ (List.mem_of_getElem? (i := 7) rfl)), by decide +kernel, by decide +kernel, by decide +kernel, (jin_2 _ (List.mem_of_getElem? (i := 0) rfl)), fun _ => rfl, rfl, jd_X9_init, by decide⟩
theorem jmo_7 : jmo jm_X9_codeOf := ⟨by decide +kernel, (jin_4 _ (List.mem_of_getElem? (i := 14) rfl)), by decide +kernel, by decide +kernel, by decide +kernel, (jin_2 _ (List.mem_of_getElem? (i := 0) rfl)), fun h => absurd h (by decide), rfl, jd_X9_codeOf, by decide⟩
theorem jmo_8 : jmo jm_J0_length_8abf5 := ⟨by decide +kernel, (jin_4 _ (List.mem_of_getElem? (i := 19) rfl)), by decide +kernel, by decide +kernel, by decide +kernel, (jin_4 _ (List.mem_of_getElem? (i := 18) rfl)), fun h => absurd h (by decide), rfl, jd_J0_length_8abf5, by decide⟩
theorem jmo_9 : jmo jm_J0_coder_7d493 := ⟨by decide +kernel, (jin_5 _ (List.mem_of_getElem? (i := 0) rfl)), by decide +kernel, by decide +kernel, by decide +kernel, (jin_4 _ (List.mem_of_getElem? (i := 18) rfl)), fun h => absurd h (by decide), rfl, jd_J0_coder_7d493, by decide⟩
theorem jmo_10 : jmo jm_J0_charAt_5068e := ⟨by decide +kernel, (jin_5 _ (List.mem_of_getElem? (i := 6) rfl)), by decide +kernel, by decide +kernel, by decide +kernel, (jin_4 _ (List.mem_of_getElem? (i := 18) rfl)), fun h => absurd h (by decide), rfl, jd_J0_charAt_5068e, by decide⟩
theorem jmo_11 : jmo jm_J0_isLatin1_aae02 := ⟨by decide +kernel, (jin_5 _ (List.mem_of_getElem? (i := 10) rfl)), by decide +kernel, by decide +kernel, by decide +kernel, (jin_4 _ (List.mem_of_getElem? (i := 18) rfl)), fun h => absurd h (by decide), rfl, jd_J0_isLatin1_aae02, by decide⟩
theorem jmo_12 : jmo jm_J1_charAt_3b067 := ⟨by decide +kernel, (jin_5 _ (List.mem_of_getElem? (i := 14) rfl)), by decide +kernel, by decide +kernel, by decide +kernel, (jin_5 _ (List.mem_of_getElem? (i := 13) rfl)), fun h => absurd h (by decide), rfl, jd_J1_charAt_3b067, by decide⟩
theorem jmo_13 : jmo jm_J0_checkIndex_df160 := ⟨by decide +kernel, (jin_5 _ (List.mem_of_getElem? (i := 17) rfl)), by decide +kernel, by decide +kernel, by decide +kernel, (jin_4 _ (List.mem_of_getElem? (i := 18) rfl)), fun h => absurd h (by decide), rfl, jd_J0_checkIndex_df160, by decide⟩
theorem jmo_14 : jmo jm_J3_checkIndex_8e157 := ⟨by decide +kernel, (jin_5 _ (List.mem_of_getElem? (i := 22) rfl)), by decide +kernel, by decide +kernel, by decide +kernel, (jin_5 _ (List.mem_of_getElem? (i := 21) rfl)), fun h => absurd h (by decide), rfl, jd_J3_checkIndex_8e157, by decide⟩
theorem jmo_15 : jmo jm_J2_charAt_3b067 := ⟨by decide +kernel, (jin_6 _ (List.mem_of_getElem? (i := 2) rfl)), by decide +kernel, by decide +kernel, by decide +kernel, (jin_6 _ (List.mem_of_getElem? (i := 1) rfl)), fun h => absurd h (by decide), rfl, jd_J2_charAt_3b067, by decide⟩
theorem jmo_16 : jmo jm_J2_checkIndex_2214a := ⟨by decide +kernel, (jin_6 _ (List.mem_of_getElem? (i := 5) rfl)), by decide +kernel, by decide +kernel, by decide +kernel, (jin_6 _ (List.mem_of_getElem? (i := 1) rfl)), fun h => absurd h (by decide), rfl, jd_J2_checkIndex_2214a, by decide⟩
theorem jmo_17 : jmo jm_J2_length_9d52b := ⟨by decide +kernel, (jin_6 _ (List.mem_of_getElem? (i := 8) rfl)), by decide +kernel, by decide +kernel, by decide +kernel, (jin_6 _ (List.mem_of_getElem? (i := 1) rfl)), fun h => absurd h (by decide), rfl, jd_J2_length_9d52b, by decide⟩
theorem jmo_18 : jmo jm_J2_getChar_3b067 := ⟨by decide +kernel, (jin_6 _ (List.mem_of_getElem? (i := 12) rfl)), by decide +kernel, by decide +kernel, by decide +kernel, (jin_6 _ (List.mem_of_getElem? (i := 1) rfl)), fun h => absurd h (by decide), rfl, jd_J2_getChar_3b067, by decide⟩
theorem jmo_19 : jmo jm_X9_withLetter := ⟨by decide +kernel, (jin_6 _ (List.mem_of_getElem? (i := 18) rfl)), by decide +kernel, by decide +kernel, by decide +kernel, (jin_2 _ (List.mem_of_getElem? (i := 0) rfl)), fun h => absurd h (by decide), rfl, jd_X9_withLetter, by decide⟩
theorem jmo_20 : jmo jm_X5_init := ⟨by decide +kernel, (jin_6 _ (List.mem_of_getElem? (i := 22) rfl)), by decide +kernel, by decide +kernel, by decide +kernel, (jin_2 _ (List.mem_of_getElem? (i := 4) rfl)), fun _ => rfl, rfl, jd_X5_init, by decide⟩
theorem jmo_21 : jmo jm_X7_init := ⟨by decide +kernel, (jin_7 _ (List.mem_of_getElem? (i := 9) rfl)), by decide +kernel, by decide +kernel, by decide +kernel, (jin_2 _ (List.mem_of_getElem? (i := 10) rfl)), fun _ => rfl, rfl, jd_X7_init, by decide⟩
theorem jmo_22 : jmo jm_X10_init := ⟨by decide +kernel, (jin_8 _ (List.mem_of_getElem? (i := 5) rfl)), by decide +kernel, by decide +kernel, by decide +kernel, (jin_7 _ (List.mem_of_getElem? (i := 17) rfl)), fun _ => rfl, rfl, jd_X10_init, by decide⟩
theorem jmo_23 : jmo jm_X4_init := ⟨by decide +kernel, (jin_8 _ (List.mem_of_getElem? (i := 9) rfl)), by decide +kernel, by decide +kernel, by decide +kernel, (jin_2 _ (List.mem_of_getElem? (i := 14) rfl)), fun _ => rfl, rfl, jd_X4_init, by decide⟩
theorem jmo_24 : jmo jm_X8_init := ⟨by decide +kernel, (jin_9 _ (List.mem_of_getElem? (i := 2) rfl)), by decide +kernel, by decide +kernel, by decide +kernel, (jin_8 _ (List.mem_of_getElem? (i := 18) rfl)), fun _ => rfl, rfl, jd_X8_init, by decide⟩
theorem jmo_25 : jmo jm_X3_placesFor := ⟨by decide +kernel, (jin_9 _ (List.mem_of_getElem? (i := 12) rfl)), by decide +kernel, by decide +kernel, by decide +kernel, (jin_1 _ (List.mem_of_getElem? (i := 14) rfl)), fun h => absurd h (by decide), rfl, jd_X3_placesFor, by decide⟩
theorem jmo_26 : jmo jm_X1_init := ⟨by decide +kernel, (jin_9 _ (List.mem_of_getElem? (i := 15) rfl)), by decide +kernel, by decide +kernel, by decide +kernel, (jin_2 _ (List.mem_of_getElem? (i := 18) rfl)), fun _ => rfl, rfl, jd_X1_init, by decide⟩
theorem jmo_27 : jmo jm_X0_init := ⟨by decide +kernel, (jin_9 _ (List.mem_of_getElem? (i := 23) rfl)), by decide +kernel, by decide +kernel, by decide +kernel, (jin_2 _ (List.mem_of_getElem? (i := 22) rfl)), fun _ => rfl, rfl, jd_X0_init, by decide⟩
theorem jmo_28 : jmo jm_X12_init := ⟨by decide +kernel, (jin_10 _ (List.mem_of_getElem? (i := 12) rfl)), by decide +kernel, by decide +kernel, by decide +kernel, (jin_1 _ (List.mem_of_getElem? (i := 5) rfl)), fun _ => rfl, rfl, jd_X12_init, by decide⟩
theorem jmo_29 : jmo jm_X11_feed := ⟨by decide +kernel, (jin_13 _ (List.mem_of_getElem? (i := 3) rfl)), by decide +kernel, by decide +kernel, by decide +kernel, (jin_1 _ (List.mem_of_getElem? (i := 2) rfl)), fun h => absurd h (by decide), rfl, jd_X11_feed, by decide⟩
theorem jmo_30 : jmo jm_X9_hasRoomFor := ⟨by decide +kernel, (jin_13 _ (List.mem_of_getElem? (i := 8) rfl)), by decide +kernel, by decide +kernel, by decide +kernel, (jin_2 _ (List.mem_of_getElem? (i := 0) rfl)), fun h => absurd h (by decide), rfl, jd_X9_hasRoomFor, by decide⟩
theorem jmo_31 : jmo jm_X9_append := ⟨by decide +kernel, (jin_13 _ (List.mem_of_getElem? (i := 13) rfl)), by decide +kernel, by decide +kernel, by decide +kernel, (jin_2 _ (List.mem_of_getElem? (i := 0) rfl)), fun h => absurd h (by decide), rfl, jd_X9_append, by decide⟩
theorem jmo_32 : jmo jm_X12_feed := ⟨by decide +kernel, (jin_13 _ (List.mem_of_getElem? (i := 17) rfl)), by decide +kernel, by decide +kernel, by decide +kernel, (jin_1 _ (List.mem_of_getElem? (i := 5) rfl)), fun h => absurd h (by decide), rfl, jd_X12_feed, by decide⟩
theorem jmo_33 : jmo jm_X12_byteRow := ⟨by decide +kernel, (jin_13 _ (List.mem_of_getElem? (i := 22) rfl)), by decide +kernel, by decide +kernel, by decide +kernel, (jin_1 _ (List.mem_of_getElem? (i := 5) rfl)), fun h => absurd h (by decide), rfl, jd_X12_byteRow, by decide⟩
theorem jmo_34 : jmo jm_X11_back := ⟨by decide +kernel, (jin_14 _ (List.mem_of_getElem? (i := 2) rfl)), by decide +kernel, by decide +kernel, by decide +kernel, (jin_1 _ (List.mem_of_getElem? (i := 2) rfl)), fun h => absurd h (by decide), rfl, jd_X11_back, by decide⟩
theorem jmo_35 : jmo jm_X12_back := ⟨by decide +kernel, (jin_14 _ (List.mem_of_getElem? (i := 6) rfl)), by decide +kernel, by decide +kernel, by decide +kernel, (jin_1 _ (List.mem_of_getElem? (i := 5) rfl)), fun h => absurd h (by decide), rfl, jd_X12_back, by decide⟩
theorem jmo_36 : jmo jm_X11_read := ⟨by decide +kernel, (jin_14 _ (List.mem_of_getElem? (i := 10) rfl)), by decide +kernel, by decide +kernel, by decide +kernel, (jin_1 _ (List.mem_of_getElem? (i := 2) rfl)), fun h => absurd h (by decide), rfl, jd_X11_read, by decide⟩
theorem jmo_37 : jmo jm_X5_readFrom := ⟨by decide +kernel, (jin_14 _ (List.mem_of_getElem? (i := 16) rfl)), by decide +kernel, by decide +kernel, by decide +kernel, (jin_2 _ (List.mem_of_getElem? (i := 4) rfl)), fun h => absurd h (by decide), rfl, jd_X5_readFrom, by decide⟩
theorem jmo_38 : jmo jm_X9_rewind := ⟨by decide +kernel, (jin_15 _ (List.mem_of_getElem? (i := 2) rfl)), by decide +kernel, by decide +kernel, by decide +kernel, (jin_2 _ (List.mem_of_getElem? (i := 0) rfl)), fun h => absurd h (by decide), rfl, jd_X9_rewind, by decide⟩
theorem jmo_39 : jmo jm_X9_nextKind := ⟨by decide +kernel, (jin_15 _ (List.mem_of_getElem? (i := 7) rfl)), by decide +kernel, by decide +kernel, by decide +kernel, (jin_2 _ (List.mem_of_getElem? (i := 0) rfl)), fun h => absurd h (by decide), rfl, jd_X9_nextKind, by decide⟩
theorem jmo_40 : jmo jm_X9_byteAt := ⟨by decide +kernel, (jin_15 _ (List.mem_of_getElem? (i := 12) rfl)), by decide +kernel, by decide +kernel, by decide +kernel, (jin_2 _ (List.mem_of_getElem? (i := 0) rfl)), fun h => absurd h (by decide), rfl, jd_X9_byteAt, by decide⟩
theorem jmo_41 : jmo jm_X9_isBlank := ⟨by decide +kernel, (jin_15 _ (List.mem_of_getElem? (i := 15) rfl)), by decide +kernel, by decide +kernel, by decide +kernel, (jin_2 _ (List.mem_of_getElem? (i := 0) rfl)), fun h => absurd h (by decide), rfl, jd_X9_isBlank, by decide⟩
theorem jmo_42 : jmo jm_X9_isLetter := ⟨by decide +kernel, (jin_15 _ (List.mem_of_getElem? (i := 18) rfl)), by decide +kernel, by decide +kernel, by decide +kernel, (jin_2 _ (List.mem_of_getElem? (i := 0) rfl)), fun h => absurd h (by decide), rfl, jd_X9_isLetter, by decide⟩
theorem jmo_43 : jmo jm_X9_wordKind := ⟨by decide +kernel, (jin_15 _ (List.mem_of_getElem? (i := 22) rfl)), by decide +kernel, by decide +kernel, by decide +kernel, (jin_2 _ (List.mem_of_getElem? (i := 0) rfl)), fun h => absurd h (by decide), rfl, jd_X9_wordKind, by decide⟩
theorem jmo_44 : jmo jm_X9_isDigit := ⟨by decide +kernel, (jin_16 _ (List.mem_of_getElem? (i := 2) rfl)), by decide +kernel, by decide +kernel, by decide +kernel, (jin_2 _ (List.mem_of_getElem? (i := 0) rfl)), fun h => absurd h (by decide), rfl, jd_X9_isDigit, by decide⟩
theorem jmo_45 : jmo jm_X9_numberKind := ⟨by decide +kernel, (jin_16 _ (List.mem_of_getElem? (i := 6) rfl)), by decide +kernel, by decide +kernel, by decide +kernel, (jin_2 _ (List.mem_of_getElem? (i := 0) rfl)), fun h => absurd h (by decide), rfl, jd_X9_numberKind, by decide⟩
theorem jmo_46 : jmo jm_X9_digitsEnd := ⟨by decide +kernel, (jin_16 _ (List.mem_of_getElem? (i := 11) rfl)), by decide +kernel, by decide +kernel, by decide +kernel, (jin_2 _ (List.mem_of_getElem? (i := 0) rfl)), fun h => absurd h (by decide), rfl, jd_X9_digitsEnd, by decide⟩
theorem jmo_47 : jmo jm_X9_readWhole := ⟨by decide +kernel, (jin_16 _ (List.mem_of_getElem? (i := 15) rfl)), by decide +kernel, by decide +kernel, by decide +kernel, (jin_2 _ (List.mem_of_getElem? (i := 0) rfl)), fun h => absurd h (by decide), rfl, jd_X9_readWhole, by decide⟩
theorem jmo_48 : jmo jm_X9_readDigits := ⟨by decide +kernel, (jin_16 _ (List.mem_of_getElem? (i := 20) rfl)), by decide +kernel, by decide +kernel, by decide +kernel, (jin_2 _ (List.mem_of_getElem? (i := 0) rfl)), fun h => absurd h (by decide), rfl, jd_X9_readDigits, by decide⟩
theorem jmo_49 : jmo jm_X9_signKind := ⟨by decide +kernel, (jin_17 _ (List.mem_of_getElem? (i := 2) rfl)), by decide +kernel, by decide +kernel, by decide +kernel, (jin_2 _ (List.mem_of_getElem? (i := 0) rfl)), fun h => absurd h (by decide), rfl, jd_X9_signKind, by decide⟩
theorem jmo_50 : jmo jm_X5_takeToken := ⟨by decide +kernel, (jin_17 _ (List.mem_of_getElem? (i := 6) rfl)), by decide +kernel, by decide +kernel, by decide +kernel, (jin_2 _ (List.mem_of_getElem? (i := 4) rfl)), fun h => absurd h (by decide), rfl, jd_X5_takeToken, by decide⟩
theorem jmo_51 : jmo jm_X5_follower := ⟨by decide +kernel, (jin_17 _ (List.mem_of_getElem? (i := 16) rfl)), by decide +kernel, by decide +kernel, by decide +kernel, (jin_2 _ (List.mem_of_getElem? (i := 4) rfl)), fun h => absurd h (by decide), rfl, jd_X5_follower, by decide⟩
theorem jmo_52 : jmo jm_X5_stepFollower := ⟨by decide +kernel, (jin_17 _ (List.mem_of_getElem? (i := 20) rfl)), by decide +kernel, by decide +kernel, by decide +kernel, (jin_2 _ (List.mem_of_getElem? (i := 4) rfl)), fun h => absurd h (by decide), rfl, jd_X5_stepFollower, by decide⟩
theorem jmo_53 : jmo jm_X5_openToken := ⟨by decide +kernel, (jin_18 _ (List.mem_of_getElem? (i := 0) rfl)), by decide +kernel, by decide +kernel, by decide +kernel, (jin_2 _ (List.mem_of_getElem? (i := 4) rfl)), fun h => absurd h (by decide), rfl, jd_X5_openToken, by decide⟩
theorem jmo_54 : jmo jm_X5_kindOf := ⟨by decide +kernel, (jin_18 _ (List.mem_of_getElem? (i := 4) rfl)), by decide +kernel, by decide +kernel, by decide +kernel, (jin_2 _ (List.mem_of_getElem? (i := 4) rfl)), fun h => absurd h (by decide), rfl, jd_X5_kindOf, by decide⟩
theorem jmo_55 : jmo jm_X5_hasToken := ⟨by decide +kernel, (jin_18 _ (List.mem_of_getElem? (i := 8) rfl)), by decide +kernel, by decide +kernel, by decide +kernel, (jin_2 _ (List.mem_of_getElem? (i := 4) rfl)), fun h => absurd h (by decide), rfl, jd_X5_hasToken, by decide⟩
theorem jmo_56 : jmo jm_X5_noteFault := ⟨by decide +kernel, (jin_18 _ (List.mem_of_getElem? (i := 12) rfl)), by decide +kernel, by decide +kernel, by decide +kernel, (jin_2 _ (List.mem_of_getElem? (i := 4) rfl)), fun h => absurd h (by decide), rfl, jd_X5_noteFault, by decide⟩
theorem jmo_57 : jmo jm_X5_nameNumber := ⟨by decide +kernel, (jin_18 _ (List.mem_of_getElem? (i := 16) rfl)), by decide +kernel, by decide +kernel, by decide +kernel, (jin_2 _ (List.mem_of_getElem? (i := 4) rfl)), fun h => absurd h (by decide), rfl, jd_X5_nameNumber, by decide⟩
theorem jmo_58 : jmo jm_X5_setSecond := ⟨by decide +kernel, (jin_18 _ (List.mem_of_getElem? (i := 20) rfl)), by decide +kernel, by decide +kernel, by decide +kernel, (jin_2 _ (List.mem_of_getElem? (i := 4) rfl)), fun h => absurd h (by decide), rfl, jd_X5_setSecond, by decide⟩
theorem jmo_59 : jmo jm_X5_joinTokens := ⟨by decide +kernel, (jin_19 _ (List.mem_of_getElem? (i := 0) rfl)), by decide +kernel, by decide +kernel, by decide +kernel, (jin_2 _ (List.mem_of_getElem? (i := 4) rfl)), fun h => absurd h (by decide), rfl, jd_X5_joinTokens, by decide⟩
theorem jmo_60 : jmo jm_X5_setOpen := ⟨by decide +kernel, (jin_19 _ (List.mem_of_getElem? (i := 4) rfl)), by decide +kernel, by decide +kernel, by decide +kernel, (jin_2 _ (List.mem_of_getElem? (i := 4) rfl)), fun h => absurd h (by decide), rfl, jd_X5_setOpen, by decide⟩
theorem jmo_61 : jmo jm_X5_checkAtoms := ⟨by decide +kernel, (jin_19 _ (List.mem_of_getElem? (i := 8) rfl)), by decide +kernel, by decide +kernel, by decide +kernel, (jin_2 _ (List.mem_of_getElem? (i := 4) rfl)), fun h => absurd h (by decide), rfl, jd_X5_checkAtoms, by decide⟩
theorem jmo_62 : jmo jm_X5_firstOf := ⟨by decide +kernel, (jin_19 _ (List.mem_of_getElem? (i := 12) rfl)), by decide +kernel, by decide +kernel, by decide +kernel, (jin_2 _ (List.mem_of_getElem? (i := 4) rfl)), fun h => absurd h (by decide), rfl, jd_X5_firstOf, by decide⟩
theorem jmo_63 : jmo jm_X5_startOf := ⟨by decide +kernel, (jin_19 _ (List.mem_of_getElem? (i := 16) rfl)), by decide +kernel, by decide +kernel, by decide +kernel, (jin_2 _ (List.mem_of_getElem? (i := 4) rfl)), fun h => absurd h (by decide), rfl, jd_X5_startOf, by decide⟩
theorem jmo_64 : jmo jm_X5_isWrong := ⟨by decide +kernel, (jin_19 _ (List.mem_of_getElem? (i := 20) rfl)), by decide +kernel, by decide +kernel, by decide +kernel, (jin_2 _ (List.mem_of_getElem? (i := 4) rfl)), fun h => absurd h (by decide), rfl, jd_X5_isWrong, by decide⟩
theorem jmo_65 : jmo jm_X5_secondOf := ⟨by decide +kernel, (jin_20 _ (List.mem_of_getElem? (i := 0) rfl)), by decide +kernel, by decide +kernel, by decide +kernel, (jin_2 _ (List.mem_of_getElem? (i := 4) rfl)), fun h => absurd h (by decide), rfl, jd_X5_secondOf, by decide⟩
theorem jmo_66 : jmo jm_X7_forgetValues := ⟨by decide +kernel, (jin_20 _ (List.mem_of_getElem? (i := 4) rfl)), by decide +kernel, by decide +kernel, by decide +kernel, (jin_2 _ (List.mem_of_getElem? (i := 10) rfl)), fun h => absurd h (by decide), rfl, jd_X7_forgetValues, by decide⟩
theorem jmo_67 : jmo jm_X7_untell := ⟨by decide +kernel, (jin_20 _ (List.mem_of_getElem? (i := 7) rfl)), by decide +kernel, by decide +kernel, by decide +kernel, (jin_2 _ (List.mem_of_getElem? (i := 10) rfl)), fun h => absurd h (by decide), rfl, jd_X7_untell, by decide⟩
theorem jmo_68 : jmo jm_X12_read := ⟨by decide +kernel, (jin_20 _ (List.mem_of_getElem? (i := 12) rfl)), by decide +kernel, by decide +kernel, by decide +kernel, (jin_1 _ (List.mem_of_getElem? (i := 5) rfl)), fun h => absurd h (by decide), rfl, jd_X12_read, by decide⟩
theorem jmo_69 : jmo jm_X12_token := ⟨by decide +kernel, (jin_20 _ (List.mem_of_getElem? (i := 20) rfl)), by decide +kernel, by decide +kernel, by decide +kernel, (jin_1 _ (List.mem_of_getElem? (i := 5) rfl)), fun h => absurd h (by decide), rfl, jd_X12_token, by decide⟩
theorem jmo_70 : jmo jm_X12_isLetter := ⟨by decide +kernel, (jin_21 _ (List.mem_of_getElem? (i := 3) rfl)), by decide +kernel, by decide +kernel, by decide +kernel, (jin_1 _ (List.mem_of_getElem? (i := 5) rfl)), fun h => absurd h (by decide), rfl, jd_X12_isLetter, by decide⟩
theorem jmo_71 : jmo jm_X12_at := ⟨by decide +kernel, (jin_21 _ (List.mem_of_getElem? (i := 7) rfl)), by decide +kernel, by decide +kernel, by decide +kernel, (jin_1 _ (List.mem_of_getElem? (i := 5) rfl)), fun h => absurd h (by decide), rfl, jd_X12_at, by decide⟩
theorem jmo_72 : jmo jm_X12_wordToken := ⟨by decide +kernel, (jin_21 _ (List.mem_of_getElem? (i := 11) rfl)), by decide +kernel, by decide +kernel, by decide +kernel, (jin_1 _ (List.mem_of_getElem? (i := 5) rfl)), fun h => absurd h (by decide), rfl, jd_X12_wordToken, by decide⟩
theorem jmo_73 : jmo jm_X12_keyword := ⟨by decide +kernel, (jin_21 _ (List.mem_of_getElem? (i := 15) rfl)), by decide +kernel, by decide +kernel, by decide +kernel, (jin_1 _ (List.mem_of_getElem? (i := 5) rfl)), fun h => absurd h (by decide), rfl, jd_X12_keyword, by decide⟩
theorem jmo_74 : jmo jm_X12_isDigit := ⟨by decide +kernel, (jin_22 _ (List.mem_of_getElem? (i := 6) rfl)), by decide +kernel, by decide +kernel, by decide +kernel, (jin_1 _ (List.mem_of_getElem? (i := 5) rfl)), fun h => absurd h (by decide), rfl, jd_X12_isDigit, by decide⟩
theorem jmo_75 : jmo jm_X12_numToken := ⟨by decide +kernel, (jin_22 _ (List.mem_of_getElem? (i := 10) rfl)), by decide +kernel, by decide +kernel, by decide +kernel, (jin_1 _ (List.mem_of_getElem? (i := 5) rfl)), fun h => absurd h (by decide), rfl, jd_X12_numToken, by decide⟩
theorem jmo_76 : jmo jm_X12_text := ⟨by decide +kernel, (jin_22 _ (List.mem_of_getElem? (i := 14) rfl)), by decide +kernel, by decide +kernel, by decide +kernel, (jin_1 _ (List.mem_of_getElem? (i := 5) rfl)), fun h => absurd h (by decide), rfl, jd_X12_text, by decide⟩
theorem jmo_77 : jmo jm_X12_stop := ⟨by decide +kernel, (jin_22 _ (List.mem_of_getElem? (i := 18) rfl)), by decide +kernel, by decide +kernel, by decide +kernel, (jin_1 _ (List.mem_of_getElem? (i := 5) rfl)), fun h => absurd h (by decide), rfl, jd_X12_stop, by decide⟩
theorem jmo_78 : jmo jm_X12_letTold := ⟨by decide +kernel, (jin_22 _ (List.mem_of_getElem? (i := 22) rfl)), by decide +kernel, by decide +kernel, by decide +kernel, (jin_1 _ (List.mem_of_getElem? (i := 5) rfl)), fun h => absurd h (by decide), rfl, jd_X12_letTold, by decide⟩
theorem jmo_79 : jmo jm_X12_pass := ⟨by decide +kernel, (jin_23 _ (List.mem_of_getElem? (i := 2) rfl)), by decide +kernel, by decide +kernel, by decide +kernel, (jin_1 _ (List.mem_of_getElem? (i := 5) rfl)), fun h => absurd h (by decide), rfl, jd_X12_pass, by decide⟩
theorem jmo_80 : jmo jm_X12_named := ⟨by decide +kernel, (jin_23 _ (List.mem_of_getElem? (i := 6) rfl)), by decide +kernel, by decide +kernel, by decide +kernel, (jin_1 _ (List.mem_of_getElem? (i := 5) rfl)), fun h => absurd h (by decide), rfl, jd_X12_named, by decide⟩
theorem jmo_81 : jmo jm_X12_newStep := ⟨by decide +kernel, (jin_23 _ (List.mem_of_getElem? (i := 10) rfl)), by decide +kernel, by decide +kernel, by decide +kernel, (jin_1 _ (List.mem_of_getElem? (i := 5) rfl)), fun h => absurd h (by decide), rfl, jd_X12_newStep, by decide⟩
theorem jmo_82 : jmo jm_X12_signs := ⟨by decide +kernel, (jin_23 _ (List.mem_of_getElem? (i := 14) rfl)), by decide +kernel, by decide +kernel, by decide +kernel, (jin_1 _ (List.mem_of_getElem? (i := 5) rfl)), fun h => absurd h (by decide), rfl, jd_X12_signs, by decide⟩
theorem jmo_83 : jmo jm_X12_isSign := ⟨by decide +kernel, (jin_23 _ (List.mem_of_getElem? (i := 18) rfl)), by decide +kernel, by decide +kernel, by decide +kernel, (jin_1 _ (List.mem_of_getElem? (i := 5) rfl)), fun h => absurd h (by decide), rfl, jd_X12_isSign, by decide⟩
theorem jmo_84 : jmo jm_X12_atomTold := ⟨by decide +kernel, (jin_23 _ (List.mem_of_getElem? (i := 22) rfl)), by decide +kernel, by decide +kernel, by decide +kernel, (jin_1 _ (List.mem_of_getElem? (i := 5) rfl)), fun h => absurd h (by decide), rfl, jd_X12_atomTold, by decide⟩
theorem jmo_85 : jmo jm_X12_numbered := ⟨by decide +kernel, (jin_24 _ (List.mem_of_getElem? (i := 2) rfl)), by decide +kernel, by decide +kernel, by decide +kernel, (jin_1 _ (List.mem_of_getElem? (i := 5) rfl)), fun h => absurd h (by decide), rfl, jd_X12_numbered, by decide⟩
theorem jmo_86 : jmo jm_X12_fault := ⟨by decide +kernel, (jin_24 _ (List.mem_of_getElem? (i := 6) rfl)), by decide +kernel, by decide +kernel, by decide +kernel, (jin_1 _ (List.mem_of_getElem? (i := 5) rfl)), fun h => absurd h (by decide), rfl, jd_X12_fault, by decide⟩
theorem jmo_87 : jmo jm_X12_repeatTold := ⟨by decide +kernel, (jin_24 _ (List.mem_of_getElem? (i := 10) rfl)), by decide +kernel, by decide +kernel, by decide +kernel, (jin_1 _ (List.mem_of_getElem? (i := 5) rfl)), fun h => absurd h (by decide), rfl, jd_X12_repeatTold, by decide⟩
theorem jmo_88 : jmo jm_X12_ifTold := ⟨by decide +kernel, (jin_24 _ (List.mem_of_getElem? (i := 14) rfl)), by decide +kernel, by decide +kernel, by decide +kernel, (jin_1 _ (List.mem_of_getElem? (i := 5) rfl)), fun h => absurd h (by decide), rfl, jd_X12_ifTold, by decide⟩
theorem jmo_89 : jmo jm_X12_isWord := ⟨by decide +kernel, (jin_24 _ (List.mem_of_getElem? (i := 18) rfl)), by decide +kernel, by decide +kernel, by decide +kernel, (jin_1 _ (List.mem_of_getElem? (i := 5) rfl)), fun h => absurd h (by decide), rfl, jd_X12_isWord, by decide⟩
theorem jmo_90 : jmo jm_X12_elseTold := ⟨by decide +kernel, (jin_24 _ (List.mem_of_getElem? (i := 22) rfl)), by decide +kernel, by decide +kernel, by decide +kernel, (jin_1 _ (List.mem_of_getElem? (i := 5) rfl)), fun h => absurd h (by decide), rfl, jd_X12_elseTold, by decide⟩
theorem jmo_91 : jmo jm_X12_endTold := ⟨by decide +kernel, (jin_25 _ (List.mem_of_getElem? (i := 2) rfl)), by decide +kernel, by decide +kernel, by decide +kernel, (jin_1 _ (List.mem_of_getElem? (i := 5) rfl)), fun h => absurd h (by decide), rfl, jd_X12_endTold, by decide⟩
theorem jmo_92 : jmo jm_X11_place := ⟨by decide +kernel, (jin_25 _ (List.mem_of_getElem? (i := 6) rfl)), by decide +kernel, by decide +kernel, by decide +kernel, (jin_1 _ (List.mem_of_getElem? (i := 2) rfl)), fun h => absurd h (by decide), rfl, jd_X11_place, by decide⟩
theorem jmo_93 : jmo jm_X12_place := ⟨by decide +kernel, (jin_25 _ (List.mem_of_getElem? (i := 10) rfl)), by decide +kernel, by decide +kernel, by decide +kernel, (jin_1 _ (List.mem_of_getElem? (i := 5) rfl)), fun h => absurd h (by decide), rfl, jd_X12_place, by decide⟩
theorem jmo_94 : jmo jm_X11_units := ⟨by decide +kernel, (jin_25 _ (List.mem_of_getElem? (i := 14) rfl)), by decide +kernel, by decide +kernel, by decide +kernel, (jin_1 _ (List.mem_of_getElem? (i := 2) rfl)), fun h => absurd h (by decide), rfl, jd_X11_units, by decide⟩
theorem jmo_95 : jmo jm_X3_unitsOf := ⟨by decide +kernel, (jin_25 _ (List.mem_of_getElem? (i := 18) rfl)), by decide +kernel, by decide +kernel, by decide +kernel, (jin_1 _ (List.mem_of_getElem? (i := 14) rfl)), fun h => absurd h (by decide), rfl, jd_X3_unitsOf, by decide⟩
theorem jmo_96 : jmo jm_X12_units := ⟨by decide +kernel, (jin_25 _ (List.mem_of_getElem? (i := 22) rfl)), by decide +kernel, by decide +kernel, by decide +kernel, (jin_1 _ (List.mem_of_getElem? (i := 5) rfl)), fun h => absurd h (by decide), rfl, jd_X12_units, by decide⟩
theorem jmo_97 : jmo jm_X12_isDigits := ⟨by decide +kernel, (jin_26 _ (List.mem_of_getElem? (i := 1) rfl)), by decide +kernel, by decide +kernel, by decide +kernel, (jin_1 _ (List.mem_of_getElem? (i := 5) rfl)), fun h => absurd h (by decide), rfl, jd_X12_isDigits, by decide⟩
theorem jmo_98 : jmo jm_X11_rule := ⟨by decide +kernel, (jin_26 _ (List.mem_of_getElem? (i := 5) rfl)), by decide +kernel, by decide +kernel, by decide +kernel, (jin_1 _ (List.mem_of_getElem? (i := 2) rfl)), fun h => absurd h (by decide), rfl, jd_X11_rule, by decide⟩
theorem jmo_99 : jmo jm_X6_init := ⟨by decide +kernel, (jin_26 _ (List.mem_of_getElem? (i := 11) rfl)), by decide +kernel, by decide +kernel, by decide +kernel, (jin_26 _ (List.mem_of_getElem? (i := 8) rfl)), fun _ => rfl, rfl, jd_X6_init, by decide⟩
theorem jmo_100 : jmo jm_X12_rule := ⟨by decide +kernel, (jin_26 _ (List.mem_of_getElem? (i := 18) rfl)), by decide +kernel, by decide +kernel, by decide +kernel, (jin_1 _ (List.mem_of_getElem? (i := 5) rfl)), fun h => absurd h (by decide), rfl, jd_X12_rule, by decide⟩
theorem jmo_101 : jmo jm_X11_scale := ⟨by decide +kernel, (jin_26 _ (List.mem_of_getElem? (i := 23) rfl)), by decide +kernel, by decide +kernel, by decide +kernel, (jin_1 _ (List.mem_of_getElem? (i := 2) rfl)), fun h => absurd h (by decide), rfl, jd_X11_scale, by decide⟩
theorem jmo_102 : jmo jm_X11_ruleAt := ⟨by decide +kernel, (jin_27 _ (List.mem_of_getElem? (i := 3) rfl)), by decide +kernel, by decide +kernel, by decide +kernel, (jin_1 _ (List.mem_of_getElem? (i := 2) rfl)), fun h => absurd h (by decide), rfl, jd_X11_ruleAt, by decide⟩
theorem jmo_103 : jmo jm_X6_addScale := ⟨by decide +kernel, (jin_27 _ (List.mem_of_getElem? (i := 7) rfl)), by decide +kernel, by decide +kernel, by decide +kernel, (jin_26 _ (List.mem_of_getElem? (i := 8) rfl)), fun h => absurd h (by decide), rfl, jd_X6_addScale, by decide⟩
theorem jmo_104 : jmo jm_X12_scale := ⟨by decide +kernel, (jin_27 _ (List.mem_of_getElem? (i := 13) rfl)), by decide +kernel, by decide +kernel, by decide +kernel, (jin_1 _ (List.mem_of_getElem? (i := 5) rfl)), fun h => absurd h (by decide), rfl, jd_X12_scale, by decide⟩
theorem jmo_105 : jmo jm_X12_isRule := ⟨by decide +kernel, (jin_27 _ (List.mem_of_getElem? (i := 17) rfl)), by decide +kernel, by decide +kernel, by decide +kernel, (jin_1 _ (List.mem_of_getElem? (i := 5) rfl)), fun h => absurd h (by decide), rfl, jd_X12_isRule, by decide⟩
theorem jmo_106 : jmo jm_X11_flaw := ⟨by decide +kernel, (jin_27 _ (List.mem_of_getElem? (i := 21) rfl)), by decide +kernel, by decide +kernel, by decide +kernel, (jin_1 _ (List.mem_of_getElem? (i := 2) rfl)), fun h => absurd h (by decide), rfl, jd_X11_flaw, by decide⟩
theorem jmo_107 : jmo jm_X11_scaleAt := ⟨by decide +kernel, (jin_28 _ (List.mem_of_getElem? (i := 1) rfl)), by decide +kernel, by decide +kernel, by decide +kernel, (jin_1 _ (List.mem_of_getElem? (i := 2) rfl)), fun h => absurd h (by decide), rfl, jd_X11_scaleAt, by decide⟩
theorem jmo_108 : jmo jm_X6_scaleAt := ⟨by decide +kernel, (jin_28 _ (List.mem_of_getElem? (i := 5) rfl)), by decide +kernel, by decide +kernel, by decide +kernel, (jin_26 _ (List.mem_of_getElem? (i := 8) rfl)), fun h => absurd h (by decide), rfl, jd_X6_scaleAt, by decide⟩
theorem jmo_109 : jmo jm_X8_setFlaw := ⟨by decide +kernel, (jin_28 _ (List.mem_of_getElem? (i := 9) rfl)), by decide +kernel, by decide +kernel, by decide +kernel, (jin_8 _ (List.mem_of_getElem? (i := 18) rfl)), fun h => absurd h (by decide), rfl, jd_X8_setFlaw, by decide⟩
theorem jmo_110 : jmo jm_X12_flaw := ⟨by decide +kernel, (jin_28 _ (List.mem_of_getElem? (i := 13) rfl)), by decide +kernel, by decide +kernel, by decide +kernel, (jin_1 _ (List.mem_of_getElem? (i := 5) rfl)), fun h => absurd h (by decide), rfl, jd_X12_flaw, by decide⟩
theorem jmo_111 : jmo jm_X12_isScale := ⟨by decide +kernel, (jin_28 _ (List.mem_of_getElem? (i := 17) rfl)), by decide +kernel, by decide +kernel, by decide +kernel, (jin_1 _ (List.mem_of_getElem? (i := 5) rfl)), fun h => absurd h (by decide), rfl, jd_X12_isScale, by decide⟩
theorem jmo_112 : jmo jm_X11_steps := ⟨by decide +kernel, (jin_28 _ (List.mem_of_getElem? (i := 21) rfl)), by decide +kernel, by decide +kernel, by decide +kernel, (jin_1 _ (List.mem_of_getElem? (i := 2) rfl)), fun h => absurd h (by decide), rfl, jd_X11_steps, by decide⟩
theorem jmo_113 : jmo jm_X12_steps := ⟨by decide +kernel, (jin_29 _ (List.mem_of_getElem? (i := 3) rfl)), by decide +kernel, by decide +kernel, by decide +kernel, (jin_1 _ (List.mem_of_getElem? (i := 5) rfl)), fun h => absurd h (by decide), rfl, jd_X12_steps, by decide⟩
theorem jmo_114 : jmo jm_X11_cut := ⟨by decide +kernel, (jin_29 _ (List.mem_of_getElem? (i := 7) rfl)), by decide +kernel, by decide +kernel, by decide +kernel, (jin_1 _ (List.mem_of_getElem? (i := 2) rfl)), fun h => absurd h (by decide), rfl, jd_X11_cut, by decide⟩
theorem jmo_115 : jmo jm_X8_hasMark := ⟨by decide +kernel, (jin_29 _ (List.mem_of_getElem? (i := 11) rfl)), by decide +kernel, by decide +kernel, by decide +kernel, (jin_8 _ (List.mem_of_getElem? (i := 18) rfl)), fun h => absurd h (by decide), rfl, jd_X8_hasMark, by decide⟩
theorem jmo_116 : jmo jm_X8_markFor := ⟨by decide +kernel, (jin_29 _ (List.mem_of_getElem? (i := 14) rfl)), by decide +kernel, by decide +kernel, by decide +kernel, (jin_8 _ (List.mem_of_getElem? (i := 18) rfl)), fun h => absurd h (by decide), rfl, jd_X8_markFor, by decide⟩
theorem jmo_117 : jmo jm_X8_cutPlace := ⟨by decide +kernel, (jin_29 _ (List.mem_of_getElem? (i := 18) rfl)), by decide +kernel, by decide +kernel, by decide +kernel, (jin_8 _ (List.mem_of_getElem? (i := 18) rfl)), fun h => absurd h (by decide), rfl, jd_X8_cutPlace, by decide⟩
theorem jmo_118 : jmo jm_X12_cut := ⟨by decide +kernel, (jin_29 _ (List.mem_of_getElem? (i := 22) rfl)), by decide +kernel, by decide +kernel, by decide +kernel, (jin_1 _ (List.mem_of_getElem? (i := 5) rfl)), fun h => absurd h (by decide), rfl, jd_X12_cut, by decide⟩
theorem jmo_119 : jmo jm_X12_isMark := ⟨by decide +kernel, (jin_30 _ (List.mem_of_getElem? (i := 2) rfl)), by decide +kernel, by decide +kernel, by decide +kernel, (jin_1 _ (List.mem_of_getElem? (i := 5) rfl)), fun h => absurd h (by decide), rfl, jd_X12_isMark, by decide⟩
theorem jmo_120 : jmo jm_X12_cutOf := ⟨by decide +kernel, (jin_30 _ (List.mem_of_getElem? (i := 6) rfl)), by decide +kernel, by decide +kernel, by decide +kernel, (jin_1 _ (List.mem_of_getElem? (i := 5) rfl)), fun h => absurd h (by decide), rfl, jd_X12_cutOf, by decide⟩
theorem jmo_121 : jmo jm_X12_trueOf := ⟨by decide +kernel, (jin_30 _ (List.mem_of_getElem? (i := 10) rfl)), by decide +kernel, by decide +kernel, by decide +kernel, (jin_1 _ (List.mem_of_getElem? (i := 5) rfl)), fun h => absurd h (by decide), rfl, jd_X12_trueOf, by decide⟩
theorem jmo_122 : jmo jm_X12_stretchOf := ⟨by decide +kernel, (jin_30 _ (List.mem_of_getElem? (i := 13) rfl)), by decide +kernel, by decide +kernel, by decide +kernel, (jin_1 _ (List.mem_of_getElem? (i := 5) rfl)), fun h => absurd h (by decide), rfl, jd_X12_stretchOf, by decide⟩
theorem jmo_123 : jmo jm_X11_seen := ⟨by decide +kernel, (jin_30 _ (List.mem_of_getElem? (i := 17) rfl)), by decide +kernel, by decide +kernel, by decide +kernel, (jin_1 _ (List.mem_of_getElem? (i := 2) rfl)), fun h => absurd h (by decide), rfl, jd_X11_seen, by decide⟩
theorem jmo_124 : jmo jm_X8_lookAt := ⟨by decide +kernel, (jin_30 _ (List.mem_of_getElem? (i := 21) rfl)), by decide +kernel, by decide +kernel, by decide +kernel, (jin_8 _ (List.mem_of_getElem? (i := 18) rfl)), fun h => absurd h (by decide), rfl, jd_X8_lookAt, by decide⟩
theorem jmo_125 : jmo jm_J9_abs := ⟨by decide +kernel, (jin_31 _ (List.mem_of_getElem? (i := 5) rfl)), by decide +kernel, by decide +kernel, by decide +kernel, (jin_34 _ (List.mem_of_getElem? (i := 9) rfl)), fun h => absurd h (by decide), rfl, jd_J9_abs, by decide⟩
theorem jmo_126 : jmo jm_X8_firstFrom := ⟨by decide +kernel, (jin_31 _ (List.mem_of_getElem? (i := 9) rfl)), by decide +kernel, by decide +kernel, by decide +kernel, (jin_8 _ (List.mem_of_getElem? (i := 18) rfl)), fun h => absurd h (by decide), rfl, jd_X8_firstFrom, by decide⟩
theorem jmo_127 : jmo jm_X8_sighted := ⟨by decide +kernel, (jin_31 _ (List.mem_of_getElem? (i := 14) rfl)), by decide +kernel, by decide +kernel, by decide +kernel, (jin_8 _ (List.mem_of_getElem? (i := 18) rfl)), fun h => absurd h (by decide), rfl, jd_X8_sighted, by decide⟩
theorem jmo_128 : jmo jm_X8_sightedMark := ⟨by decide +kernel, (jin_31 _ (List.mem_of_getElem? (i := 18) rfl)), by decide +kernel, by decide +kernel, by decide +kernel, (jin_8 _ (List.mem_of_getElem? (i := 18) rfl)), fun h => absurd h (by decide), rfl, jd_X8_sightedMark, by decide⟩
theorem jmo_129 : jmo jm_X8_decadeOf := ⟨by decide +kernel, (jin_31 _ (List.mem_of_getElem? (i := 21) rfl)), by decide +kernel, by decide +kernel, by decide +kernel, (jin_8 _ (List.mem_of_getElem? (i := 18) rfl)), fun h => absurd h (by decide), rfl, jd_X8_decadeOf, by decide⟩
theorem jmo_130 : jmo jm_X8_digitsOf := ⟨by decide +kernel, (jin_32 _ (List.mem_of_getElem? (i := 0) rfl)), by decide +kernel, by decide +kernel, by decide +kernel, (jin_8 _ (List.mem_of_getElem? (i := 18) rfl)), fun h => absurd h (by decide), rfl, jd_X8_digitsOf, by decide⟩
theorem jmo_131 : jmo jm_X12_seen := ⟨by decide +kernel, (jin_32 _ (List.mem_of_getElem? (i := 4) rfl)), by decide +kernel, by decide +kernel, by decide +kernel, (jin_1 _ (List.mem_of_getElem? (i := 5) rfl)), fun h => absurd h (by decide), rfl, jd_X12_seen, by decide⟩
theorem jmo_132 : jmo jm_X12_see := ⟨by decide +kernel, (jin_32 _ (List.mem_of_getElem? (i := 8) rfl)), by decide +kernel, by decide +kernel, by decide +kernel, (jin_1 _ (List.mem_of_getElem? (i := 5) rfl)), fun h => absurd h (by decide), rfl, jd_X12_see, by decide⟩
theorem jmo_133 : jmo jm_X12_apart := ⟨by decide +kernel, (jin_32 _ (List.mem_of_getElem? (i := 12) rfl)), by decide +kernel, by decide +kernel, by decide +kernel, (jin_1 _ (List.mem_of_getElem? (i := 5) rfl)), fun h => absurd h (by decide), rfl, jd_X12_apart, by decide⟩
theorem jmo_134 : jmo jm_X11_take := ⟨by decide +kernel, (jin_32 _ (List.mem_of_getElem? (i := 16) rfl)), by decide +kernel, by decide +kernel, by decide +kernel, (jin_1 _ (List.mem_of_getElem? (i := 2) rfl)), fun h => absurd h (by decide), rfl, jd_X11_take, by decide⟩
theorem jmo_135 : jmo jm_X2_pickUp := ⟨by decide +kernel, (jin_32 _ (List.mem_of_getElem? (i := 20) rfl)), by decide +kernel, by decide +kernel, by decide +kernel, (jin_1 _ (List.mem_of_getElem? (i := 20) rfl)), fun h => absurd h (by decide), rfl, jd_X2_pickUp, by decide⟩
theorem jmo_136 : jmo jm_X2_setAll := ⟨by decide +kernel, (jin_33 _ (List.mem_of_getElem? (i := 1) rfl)), by decide +kernel, by decide +kernel, by decide +kernel, (jin_1 _ (List.mem_of_getElem? (i := 20) rfl)), fun h => absurd h (by decide), rfl, jd_X2_setAll, by decide⟩
theorem jmo_137 : jmo jm_X12_take := ⟨by decide +kernel, (jin_33 _ (List.mem_of_getElem? (i := 9) rfl)), by decide +kernel, by decide +kernel, by decide +kernel, (jin_1 _ (List.mem_of_getElem? (i := 5) rfl)), fun h => absurd h (by decide), rfl, jd_X12_take, by decide⟩
theorem jmo_138 : jmo jm_X11_hair := ⟨by decide +kernel, (jin_33 _ (List.mem_of_getElem? (i := 17) rfl)), by decide +kernel, by decide +kernel, by decide +kernel, (jin_1 _ (List.mem_of_getElem? (i := 2) rfl)), fun h => absurd h (by decide), rfl, jd_X11_hair, by decide⟩
theorem jmo_139 : jmo jm_X2_scaleInHand := ⟨by decide +kernel, (jin_33 _ (List.mem_of_getElem? (i := 22) rfl)), by decide +kernel, by decide +kernel, by decide +kernel, (jin_1 _ (List.mem_of_getElem? (i := 20) rfl)), fun h => absurd h (by decide), rfl, jd_X2_scaleInHand, by decide⟩
theorem jmo_140 : jmo jm_X11_isNumber := ⟨by decide +kernel, (jin_34 _ (List.mem_of_getElem? (i := 2) rfl)), by decide +kernel, by decide +kernel, by decide +kernel, (jin_1 _ (List.mem_of_getElem? (i := 2) rfl)), fun h => absurd h (by decide), rfl, jd_X11_isNumber, by decide⟩
theorem jmo_141 : jmo jm_X8_markOfNumber := ⟨by decide +kernel, (jin_34 _ (List.mem_of_getElem? (i := 6) rfl)), by decide +kernel, by decide +kernel, by decide +kernel, (jin_8 _ (List.mem_of_getElem? (i := 18) rfl)), fun h => absurd h (by decide), rfl, jd_X8_markOfNumber, by decide⟩
theorem jmo_142 : jmo jm_J9_floorMod_7cf53 := ⟨by decide +kernel, (jin_34 _ (List.mem_of_getElem? (i := 10) rfl)), by decide +kernel, by decide +kernel, by decide +kernel, (jin_34 _ (List.mem_of_getElem? (i := 9) rfl)), fun h => absurd h (by decide), rfl, jd_J9_floorMod_7cf53, by decide⟩
theorem jmo_143 : jmo jm_X2_bringHair := ⟨by decide +kernel, (jin_34 _ (List.mem_of_getElem? (i := 15) rfl)), by decide +kernel, by decide +kernel, by decide +kernel, (jin_1 _ (List.mem_of_getElem? (i := 20) rfl)), fun h => absurd h (by decide), rfl, jd_X2_bringHair, by decide⟩
theorem jmo_144 : jmo jm_X2_putHair := ⟨by decide +kernel, (jin_34 _ (List.mem_of_getElem? (i := 21) rfl)), by decide +kernel, by decide +kernel, by decide +kernel, (jin_1 _ (List.mem_of_getElem? (i := 20) rfl)), fun h => absurd h (by decide), rfl, jd_X2_putHair, by decide⟩
theorem jmo_145 : jmo jm_X12_hair := ⟨by decide +kernel, (jin_35 _ (List.mem_of_getElem? (i := 2) rfl)), by decide +kernel, by decide +kernel, by decide +kernel, (jin_1 _ (List.mem_of_getElem? (i := 5) rfl)), fun h => absurd h (by decide), rfl, jd_X12_hair, by decide⟩
theorem jmo_146 : jmo jm_X12_isNumber := ⟨by decide +kernel, (jin_35 _ (List.mem_of_getElem? (i := 5) rfl)), by decide +kernel, by decide +kernel, by decide +kernel, (jin_1 _ (List.mem_of_getElem? (i := 5) rfl)), fun h => absurd h (by decide), rfl, jd_X12_isNumber, by decide⟩
theorem jmo_147 : jmo jm_X12_decade := ⟨by decide +kernel, (jin_35 _ (List.mem_of_getElem? (i := 8) rfl)), by decide +kernel, by decide +kernel, by decide +kernel, (jin_1 _ (List.mem_of_getElem? (i := 5) rfl)), fun h => absurd h (by decide), rfl, jd_X12_decade, by decide⟩
theorem jmo_148 : jmo jm_X12_hairTo := ⟨by decide +kernel, (jin_35 _ (List.mem_of_getElem? (i := 12) rfl)), by decide +kernel, by decide +kernel, by decide +kernel, (jin_1 _ (List.mem_of_getElem? (i := 5) rfl)), fun h => absurd h (by decide), rfl, jd_X12_hairTo, by decide⟩
theorem jmo_149 : jmo jm_X11_slide := ⟨by decide +kernel, (jin_35 _ (List.mem_of_getElem? (i := 16) rfl)), by decide +kernel, by decide +kernel, by decide +kernel, (jin_1 _ (List.mem_of_getElem? (i := 2) rfl)), fun h => absurd h (by decide), rfl, jd_X11_slide, by decide⟩
theorem jmo_150 : jmo jm_X2_bringSlide := ⟨by decide +kernel, (jin_35 _ (List.mem_of_getElem? (i := 22) rfl)), by decide +kernel, by decide +kernel, by decide +kernel, (jin_1 _ (List.mem_of_getElem? (i := 20) rfl)), fun h => absurd h (by decide), rfl, jd_X2_bringSlide, by decide⟩
theorem jmo_151 : jmo jm_X2_putSlide := ⟨by decide +kernel, (jin_36 _ (List.mem_of_getElem? (i := 2) rfl)), by decide +kernel, by decide +kernel, by decide +kernel, (jin_1 _ (List.mem_of_getElem? (i := 20) rfl)), fun h => absurd h (by decide), rfl, jd_X2_putSlide, by decide⟩
theorem jmo_152 : jmo jm_X12_slide := ⟨by decide +kernel, (jin_36 _ (List.mem_of_getElem? (i := 7) rfl)), by decide +kernel, by decide +kernel, by decide +kernel, (jin_1 _ (List.mem_of_getElem? (i := 5) rfl)), fun h => absurd h (by decide), rfl, jd_X12_slide, by decide⟩
theorem jmo_153 : jmo jm_X12_slideTo := ⟨by decide +kernel, (jin_36 _ (List.mem_of_getElem? (i := 11) rfl)), by decide +kernel, by decide +kernel, by decide +kernel, (jin_1 _ (List.mem_of_getElem? (i := 5) rfl)), fun h => absurd h (by decide), rfl, jd_X12_slideTo, by decide⟩
theorem jmo_154 : jmo jm_X11_index := ⟨by decide +kernel, (jin_36 _ (List.mem_of_getElem? (i := 15) rfl)), by decide +kernel, by decide +kernel, by decide +kernel, (jin_1 _ (List.mem_of_getElem? (i := 2) rfl)), fun h => absurd h (by decide), rfl, jd_X11_index, by decide⟩
theorem jmo_155 : jmo jm_X12_index := ⟨by decide +kernel, (jin_36 _ (List.mem_of_getElem? (i := 20) rfl)), by decide +kernel, by decide +kernel, by decide +kernel, (jin_1 _ (List.mem_of_getElem? (i := 5) rfl)), fun h => absurd h (by decide), rfl, jd_X12_index, by decide⟩
theorem jmo_156 : jmo jm_X11_look := ⟨by decide +kernel, (jin_37 _ (List.mem_of_getElem? (i := 0) rfl)), by decide +kernel, by decide +kernel, by decide +kernel, (jin_1 _ (List.mem_of_getElem? (i := 2) rfl)), fun h => absurd h (by decide), rfl, jd_X11_look, by decide⟩
theorem jmo_157 : jmo jm_X2_shows := ⟨by decide +kernel, (jin_37 _ (List.mem_of_getElem? (i := 4) rfl)), by decide +kernel, by decide +kernel, by decide +kernel, (jin_1 _ (List.mem_of_getElem? (i := 20) rfl)), fun h => absurd h (by decide), rfl, jd_X2_shows, by decide⟩
theorem jmo_158 : jmo jm_X12_look := ⟨by decide +kernel, (jin_37 _ (List.mem_of_getElem? (i := 9) rfl)), by decide +kernel, by decide +kernel, by decide +kernel, (jin_1 _ (List.mem_of_getElem? (i := 5) rfl)), fun h => absurd h (by decide), rfl, jd_X12_look, by decide⟩
theorem jmo_159 : jmo jm_X12_looks := ⟨by decide +kernel, (jin_37 _ (List.mem_of_getElem? (i := 13) rfl)), by decide +kernel, by decide +kernel, by decide +kernel, (jin_1 _ (List.mem_of_getElem? (i := 5) rfl)), fun h => absurd h (by decide), rfl, jd_X12_looks, by decide⟩
theorem jmo_160 : jmo jm_X11_state := ⟨by decide +kernel, (jin_37 _ (List.mem_of_getElem? (i := 17) rfl)), by decide +kernel, by decide +kernel, by decide +kernel, (jin_1 _ (List.mem_of_getElem? (i := 2) rfl)), fun h => absurd h (by decide), rfl, jd_X11_state, by decide⟩
theorem jmo_161 : jmo jm_X12_state := ⟨by decide +kernel, (jin_38 _ (List.mem_of_getElem? (i := 0) rfl)), by decide +kernel, by decide +kernel, by decide +kernel, (jin_1 _ (List.mem_of_getElem? (i := 5) rfl)), fun h => absurd h (by decide), rfl, jd_X12_state, by decide⟩
theorem jmo_162 : jmo jm_X11_run := ⟨by decide +kernel, (jin_38 _ (List.mem_of_getElem? (i := 4) rfl)), by decide +kernel, by decide +kernel, by decide +kernel, (jin_1 _ (List.mem_of_getElem? (i := 2) rfl)), fun h => absurd h (by decide), rfl, jd_X11_run, by decide⟩
theorem jmo_163 : jmo jm_X7_perform := ⟨by decide +kernel, (jin_38 _ (List.mem_of_getElem? (i := 9) rfl)), by decide +kernel, by decide +kernel, by decide +kernel, (jin_2 _ (List.mem_of_getElem? (i := 10) rfl)), fun h => absurd h (by decide), rfl, jd_X7_perform, by decide⟩
theorem jmo_164 : jmo jm_X2_startCounting := ⟨by decide +kernel, (jin_39 _ (List.mem_of_getElem? (i := 2) rfl)), by decide +kernel, by decide +kernel, by decide +kernel, (jin_1 _ (List.mem_of_getElem? (i := 20) rfl)), fun h => absurd h (by decide), rfl, jd_X2_startCounting, by decide⟩
theorem jmo_165 : jmo jm_X7_beginLet := ⟨by decide +kernel, (jin_39 _ (List.mem_of_getElem? (i := 8) rfl)), by decide +kernel, by decide +kernel, by decide +kernel, (jin_2 _ (List.mem_of_getElem? (i := 10) rfl)), fun h => absurd h (by decide), rfl, jd_X7_beginLet, by decide⟩
theorem jmo_166 : jmo jm_X7_countStep := ⟨by decide +kernel, (jin_39 _ (List.mem_of_getElem? (i := 13) rfl)), by decide +kernel, by decide +kernel, by decide +kernel, (jin_2 _ (List.mem_of_getElem? (i := 10) rfl)), fun h => absurd h (by decide), rfl, jd_X7_countStep, by decide⟩
theorem jmo_167 : jmo jm_X7_endLet := ⟨by decide +kernel, (jin_39 _ (List.mem_of_getElem? (i := 17) rfl)), by decide +kernel, by decide +kernel, by decide +kernel, (jin_2 _ (List.mem_of_getElem? (i := 10) rfl)), fun h => absurd h (by decide), rfl, jd_X7_endLet, by decide⟩
theorem jmo_168 : jmo jm_X7_calculate := ⟨by decide +kernel, (jin_39 _ (List.mem_of_getElem? (i := 22) rfl)), by decide +kernel, by decide +kernel, by decide +kernel, (jin_2 _ (List.mem_of_getElem? (i := 10) rfl)), fun h => absurd h (by decide), rfl, jd_X7_calculate, by decide⟩
theorem jmo_169 : jmo jm_X7_onBody := ⟨by decide +kernel, (jin_40 _ (List.mem_of_getElem? (i := 2) rfl)), by decide +kernel, by decide +kernel, by decide +kernel, (jin_2 _ (List.mem_of_getElem? (i := 10) rfl)), fun h => absurd h (by decide), rfl, jd_X7_onBody, by decide⟩
theorem jmo_170 : jmo jm_X6_firstLike := ⟨by decide +kernel, (jin_40 _ (List.mem_of_getElem? (i := 7) rfl)), by decide +kernel, by decide +kernel, by decide +kernel, (jin_26 _ (List.mem_of_getElem? (i := 8) rfl)), fun h => absurd h (by decide), rfl, jd_X6_firstLike, by decide⟩
theorem jmo_171 : jmo jm_X2_startWith := ⟨by decide +kernel, (jin_40 _ (List.mem_of_getElem? (i := 14) rfl)), by decide +kernel, by decide +kernel, by decide +kernel, (jin_1 _ (List.mem_of_getElem? (i := 20) rfl)), fun h => absurd h (by decide), rfl, jd_X2_startWith, by decide⟩
theorem jmo_172 : jmo jm_X2_judge := ⟨by decide +kernel, (jin_40 _ (List.mem_of_getElem? (i := 20) rfl)), by decide +kernel, by decide +kernel, by decide +kernel, (jin_1 _ (List.mem_of_getElem? (i := 20) rfl)), fun h => absurd h (by decide), rfl, jd_X2_judge, by decide⟩
theorem jmo_173 : jmo jm_X7_onSlide := ⟨by decide +kernel, (jin_41 _ (List.mem_of_getElem? (i := 0) rfl)), by decide +kernel, by decide +kernel, by decide +kernel, (jin_2 _ (List.mem_of_getElem? (i := 10) rfl)), fun h => absurd h (by decide), rfl, jd_X7_onSlide, by decide⟩
theorem jmo_174 : jmo jm_X2_divide := ⟨by decide +kernel, (jin_41 _ (List.mem_of_getElem? (i := 4) rfl)), by decide +kernel, by decide +kernel, by decide +kernel, (jin_1 _ (List.mem_of_getElem? (i := 20) rfl)), fun h => absurd h (by decide), rfl, jd_X2_divide, by decide⟩
theorem jmo_175 : jmo jm_X2_multiply := ⟨by decide +kernel, (jin_41 _ (List.mem_of_getElem? (i := 9) rfl)), by decide +kernel, by decide +kernel, by decide +kernel, (jin_1 _ (List.mem_of_getElem? (i := 20) rfl)), fun h => absurd h (by decide), rfl, jd_X2_multiply, by decide⟩
theorem jmo_176 : jmo jm_X7_atomAt := ⟨by decide +kernel, (jin_41 _ (List.mem_of_getElem? (i := 14) rfl)), by decide +kernel, by decide +kernel, by decide +kernel, (jin_2 _ (List.mem_of_getElem? (i := 10) rfl)), fun h => absurd h (by decide), rfl, jd_X7_atomAt, by decide⟩
theorem jmo_177 : jmo jm_X10_setAlike := ⟨by decide +kernel, (jin_41 _ (List.mem_of_getElem? (i := 20) rfl)), by decide +kernel, by decide +kernel, by decide +kernel, (jin_7 _ (List.mem_of_getElem? (i := 17) rfl)), fun h => absurd h (by decide), rfl, jd_X10_setAlike, by decide⟩
theorem jmo_178 : jmo jm_X10_setSighted := ⟨by decide +kernel, (jin_42 _ (List.mem_of_getElem? (i := 7) rfl)), by decide +kernel, by decide +kernel, by decide +kernel, (jin_7 _ (List.mem_of_getElem? (i := 17) rfl)), fun h => absurd h (by decide), rfl, jd_X10_setSighted, by decide⟩
theorem jmo_179 : jmo jm_X10_isBeyond := ⟨by decide +kernel, (jin_42 _ (List.mem_of_getElem? (i := 14) rfl)), by decide +kernel, by decide +kernel, by decide +kernel, (jin_7 _ (List.mem_of_getElem? (i := 17) rfl)), fun h => absurd h (by decide), rfl, jd_X10_isBeyond, by decide⟩
theorem jmo_180 : jmo jm_J9_min := ⟨by decide +kernel, (jin_42 _ (List.mem_of_getElem? (i := 17) rfl)), by decide +kernel, by decide +kernel, by decide +kernel, (jin_34 _ (List.mem_of_getElem? (i := 9) rfl)), fun h => absurd h (by decide), rfl, jd_J9_min, by decide⟩
theorem jmo_181 : jmo jm_X7_beginTurns := ⟨by decide +kernel, (jin_42 _ (List.mem_of_getElem? (i := 22) rfl)), by decide +kernel, by decide +kernel, by decide +kernel, (jin_2 _ (List.mem_of_getElem? (i := 10) rfl)), fun h => absurd h (by decide), rfl, jd_X7_beginTurns, by decide⟩
theorem jmo_182 : jmo jm_X7_choose := ⟨by decide +kernel, (jin_43 _ (List.mem_of_getElem? (i := 2) rfl)), by decide +kernel, by decide +kernel, by decide +kernel, (jin_2 _ (List.mem_of_getElem? (i := 10) rfl)), fun h => absurd h (by decide), rfl, jd_X7_choose, by decide⟩
theorem jmo_183 : jmo jm_X10_isLess := ⟨by decide +kernel, (jin_43 _ (List.mem_of_getElem? (i := 6) rfl)), by decide +kernel, by decide +kernel, by decide +kernel, (jin_7 _ (List.mem_of_getElem? (i := 17) rfl)), fun h => absurd h (by decide), rfl, jd_X10_isLess, by decide⟩
theorem jmo_184 : jmo jm_X10_isBelow := ⟨by decide +kernel, (jin_43 _ (List.mem_of_getElem? (i := 9) rfl)), by decide +kernel, by decide +kernel, by decide +kernel, (jin_7 _ (List.mem_of_getElem? (i := 17) rfl)), fun h => absurd h (by decide), rfl, jd_X10_isBelow, by decide⟩
theorem jmo_185 : jmo jm_X10_isSame := ⟨by decide +kernel, (jin_43 _ (List.mem_of_getElem? (i := 13) rfl)), by decide +kernel, by decide +kernel, by decide +kernel, (jin_7 _ (List.mem_of_getElem? (i := 17) rfl)), fun h => absurd h (by decide), rfl, jd_X10_isSame, by decide⟩
theorem jmo_186 : jmo jm_X10_isSure := ⟨by decide +kernel, (jin_43 _ (List.mem_of_getElem? (i := 17) rfl)), by decide +kernel, by decide +kernel, by decide +kernel, (jin_7 _ (List.mem_of_getElem? (i := 17) rfl)), fun h => absurd h (by decide), rfl, jd_X10_isSure, by decide⟩
theorem jmo_187 : jmo jm_X7_endTurn := ⟨by decide +kernel, (jin_43 _ (List.mem_of_getElem? (i := 21) rfl)), by decide +kernel, by decide +kernel, by decide +kernel, (jin_2 _ (List.mem_of_getElem? (i := 10) rfl)), fun h => absurd h (by decide), rfl, jd_X7_endTurn, by decide⟩
theorem jmo_188 : jmo jm_X7_raise := ⟨by decide +kernel, (jin_44 _ (List.mem_of_getElem? (i := 1) rfl)), by decide +kernel, by decide +kernel, by decide +kernel, (jin_2 _ (List.mem_of_getElem? (i := 10) rfl)), fun h => absurd h (by decide), rfl, jd_X7_raise, by decide⟩
theorem jmo_189 : jmo jm_X7_scaleToSet := ⟨by decide +kernel, (jin_44 _ (List.mem_of_getElem? (i := 7) rfl)), by decide +kernel, by decide +kernel, by decide +kernel, (jin_2 _ (List.mem_of_getElem? (i := 10) rfl)), fun h => absurd h (by decide), rfl, jd_X7_scaleToSet, by decide⟩
theorem jmo_190 : jmo jm_X7_scaleToRead := ⟨by decide +kernel, (jin_44 _ (List.mem_of_getElem? (i := 11) rfl)), by decide +kernel, by decide +kernel, by decide +kernel, (jin_2 _ (List.mem_of_getElem? (i := 10) rfl)), fun h => absurd h (by decide), rfl, jd_X7_scaleToRead, by decide⟩
theorem jmo_191 : jmo jm_X7_placeToRead := ⟨by decide +kernel, (jin_44 _ (List.mem_of_getElem? (i := 14) rfl)), by decide +kernel, by decide +kernel, by decide +kernel, (jin_2 _ (List.mem_of_getElem? (i := 10) rfl)), fun h => absurd h (by decide), rfl, jd_X7_placeToRead, by decide⟩
theorem jmo_192 : jmo jm_J9_floorDiv_7cf53 := ⟨by decide +kernel, (jin_44 _ (List.mem_of_getElem? (i := 17) rfl)), by decide +kernel, by decide +kernel, by decide +kernel, (jin_34 _ (List.mem_of_getElem? (i := 9) rfl)), fun h => absurd h (by decide), rfl, jd_J9_floorDiv_7cf53, by decide⟩
theorem jmo_193 : jmo jm_X7_lookAcross := ⟨by decide +kernel, (jin_44 _ (List.mem_of_getElem? (i := 21) rfl)), by decide +kernel, by decide +kernel, by decide +kernel, (jin_2 _ (List.mem_of_getElem? (i := 10) rfl)), fun h => absurd h (by decide), rfl, jd_X7_lookAcross, by decide⟩
theorem jmo_194 : jmo jm_X10_looseBy := ⟨by decide +kernel, (jin_45 _ (List.mem_of_getElem? (i := 3) rfl)), by decide +kernel, by decide +kernel, by decide +kernel, (jin_7 _ (List.mem_of_getElem? (i := 17) rfl)), fun h => absurd h (by decide), rfl, jd_X10_looseBy, by decide⟩
theorem jmo_195 : jmo jm_X3_reachOf := ⟨by decide +kernel, (jin_45 _ (List.mem_of_getElem? (i := 7) rfl)), by decide +kernel, by decide +kernel, by decide +kernel, (jin_1 _ (List.mem_of_getElem? (i := 14) rfl)), fun h => absurd h (by decide), rfl, jd_X3_reachOf, by decide⟩
theorem jmo_196 : jmo jm_X12_run := ⟨by decide +kernel, (jin_45 _ (List.mem_of_getElem? (i := 16) rfl)), by decide +kernel, by decide +kernel, by decide +kernel, (jin_1 _ (List.mem_of_getElem? (i := 5) rfl)), fun h => absurd h (by decide), rfl, jd_X12_run, by decide⟩
theorem jmo_197 : jmo jm_X12_goes := ⟨by decide +kernel, (jin_46 _ (List.mem_of_getElem? (i := 3) rfl)), by decide +kernel, by decide +kernel, by decide +kernel, (jin_1 _ (List.mem_of_getElem? (i := 5) rfl)), fun h => absurd h (by decide), rfl, jd_X12_goes, by decide⟩
theorem jmo_198 : jmo jm_X12_counts := ⟨by decide +kernel, (jin_46 _ (List.mem_of_getElem? (i := 7) rfl)), by decide +kernel, by decide +kernel, by decide +kernel, (jin_1 _ (List.mem_of_getElem? (i := 5) rfl)), fun h => absurd h (by decide), rfl, jd_X12_counts, by decide⟩
theorem jmo_199 : jmo jm_X12_breaks := ⟨by decide +kernel, (jin_46 _ (List.mem_of_getElem? (i := 11) rfl)), by decide +kernel, by decide +kernel, by decide +kernel, (jin_1 _ (List.mem_of_getElem? (i := 5) rfl)), fun h => absurd h (by decide), rfl, jd_X12_breaks, by decide⟩
theorem jmo_200 : jmo jm_X12_lets := ⟨by decide +kernel, (jin_46 _ (List.mem_of_getElem? (i := 15) rfl)), by decide +kernel, by decide +kernel, by decide +kernel, (jin_1 _ (List.mem_of_getElem? (i := 5) rfl)), fun h => absurd h (by decide), rfl, jd_X12_lets, by decide⟩
theorem jmo_201 : jmo jm_X12_power := ⟨by decide +kernel, (jin_46 _ (List.mem_of_getElem? (i := 20) rfl)), by decide +kernel, by decide +kernel, by decide +kernel, (jin_1 _ (List.mem_of_getElem? (i := 5) rfl)), fun h => absurd h (by decide), rfl, jd_X12_power, by decide⟩
theorem jmo_202 : jmo jm_X12_asked := ⟨by decide +kernel, (jin_47 _ (List.mem_of_getElem? (i := 0) rfl)), by decide +kernel, by decide +kernel, by decide +kernel, (jin_1 _ (List.mem_of_getElem? (i := 5) rfl)), fun h => absurd h (by decide), rfl, jd_X12_asked, by decide⟩
theorem jmo_203 : jmo jm_X12_find := ⟨by decide +kernel, (jin_47 _ (List.mem_of_getElem? (i := 4) rfl)), by decide +kernel, by decide +kernel, by decide +kernel, (jin_1 _ (List.mem_of_getElem? (i := 5) rfl)), fun h => absurd h (by decide), rfl, jd_X12_find, by decide⟩
theorem jmo_204 : jmo jm_X12_hairBy := ⟨by decide +kernel, (jin_47 _ (List.mem_of_getElem? (i := 8) rfl)), by decide +kernel, by decide +kernel, by decide +kernel, (jin_1 _ (List.mem_of_getElem? (i := 5) rfl)), fun h => absurd h (by decide), rfl, jd_X12_hairBy, by decide⟩
theorem jmo_205 : jmo jm_X12_loose := ⟨by decide +kernel, (jin_47 _ (List.mem_of_getElem? (i := 12) rfl)), by decide +kernel, by decide +kernel, by decide +kernel, (jin_1 _ (List.mem_of_getElem? (i := 5) rfl)), fun h => absurd h (by decide), rfl, jd_X12_loose, by decide⟩
theorem jmo_206 : jmo jm_X12_reachAt := ⟨by decide +kernel, (jin_47 _ (List.mem_of_getElem? (i := 16) rfl)), by decide +kernel, by decide +kernel, by decide +kernel, (jin_1 _ (List.mem_of_getElem? (i := 5) rfl)), fun h => absurd h (by decide), rfl, jd_X12_reachAt, by decide⟩
theorem jmo_207 : jmo jm_X12_reach := ⟨by decide +kernel, (jin_47 _ (List.mem_of_getElem? (i := 20) rfl)), by decide +kernel, by decide +kernel, by decide +kernel, (jin_1 _ (List.mem_of_getElem? (i := 5) rfl)), fun h => absurd h (by decide), rfl, jd_X12_reach, by decide⟩
theorem jmo_208 : jmo jm_X12_isHeld := ⟨by decide +kernel, (jin_48 _ (List.mem_of_getElem? (i := 0) rfl)), by decide +kernel, by decide +kernel, by decide +kernel, (jin_1 _ (List.mem_of_getElem? (i := 5) rfl)), fun h => absurd h (by decide), rfl, jd_X12_isHeld, by decide⟩
theorem jmo_209 : jmo jm_X12_lookBy := ⟨by decide +kernel, (jin_48 _ (List.mem_of_getElem? (i := 4) rfl)), by decide +kernel, by decide +kernel, by decide +kernel, (jin_1 _ (List.mem_of_getElem? (i := 5) rfl)), fun h => absurd h (by decide), rfl, jd_X12_lookBy, by decide⟩
theorem jmo_210 : jmo jm_X12_floored := ⟨by decide +kernel, (jin_48 _ (List.mem_of_getElem? (i := 7) rfl)), by decide +kernel, by decide +kernel, by decide +kernel, (jin_1 _ (List.mem_of_getElem? (i := 5) rfl)), fun h => absurd h (by decide), rfl, jd_X12_floored, by decide⟩
theorem jmo_211 : jmo jm_X12_overBy := ⟨by decide +kernel, (jin_48 _ (List.mem_of_getElem? (i := 11) rfl)), by decide +kernel, by decide +kernel, by decide +kernel, (jin_1 _ (List.mem_of_getElem? (i := 5) rfl)), fun h => absurd h (by decide), rfl, jd_X12_overBy, by decide⟩
theorem jmo_212 : jmo jm_X12_slideBy := ⟨by decide +kernel, (jin_48 _ (List.mem_of_getElem? (i := 15) rfl)), by decide +kernel, by decide +kernel, by decide +kernel, (jin_1 _ (List.mem_of_getElem? (i := 5) rfl)), fun h => absurd h (by decide), rfl, jd_X12_slideBy, by decide⟩
theorem jmo_213 : jmo jm_X12_timesBy := ⟨by decide +kernel, (jin_48 _ (List.mem_of_getElem? (i := 19) rfl)), by decide +kernel, by decide +kernel, by decide +kernel, (jin_1 _ (List.mem_of_getElem? (i := 5) rfl)), fun h => absurd h (by decide), rfl, jd_X12_timesBy, by decide⟩
theorem jmo_214 : jmo jm_X12_holds := ⟨by decide +kernel, (jin_48 _ (List.mem_of_getElem? (i := 23) rfl)), by decide +kernel, by decide +kernel, by decide +kernel, (jin_1 _ (List.mem_of_getElem? (i := 5) rfl)), fun h => absurd h (by decide), rfl, jd_X12_holds, by decide⟩
theorem jmo_215 : jmo jm_X12_isLess := ⟨by decide +kernel, (jin_49 _ (List.mem_of_getElem? (i := 3) rfl)), by decide +kernel, by decide +kernel, by decide +kernel, (jin_1 _ (List.mem_of_getElem? (i := 5) rfl)), fun h => absurd h (by decide), rfl, jd_X12_isLess, by decide⟩
theorem jmo_216 : jmo jm_X12_alike := ⟨by decide +kernel, (jin_49 _ (List.mem_of_getElem? (i := 7) rfl)), by decide +kernel, by decide +kernel, by decide +kernel, (jin_1 _ (List.mem_of_getElem? (i := 5) rfl)), fun h => absurd h (by decide), rfl, jd_X12_alike, by decide⟩
theorem jmo_217 : jmo jm_X11_broke := ⟨by decide +kernel, (jin_49 _ (List.mem_of_getElem? (i := 11) rfl)), by decide +kernel, by decide +kernel, by decide +kernel, (jin_1 _ (List.mem_of_getElem? (i := 2) rfl)), fun h => absurd h (by decide), rfl, jd_X11_broke, by decide⟩
theorem jmo_218 : jmo jm_X12_broke := ⟨by decide +kernel, (jin_49 _ (List.mem_of_getElem? (i := 16) rfl)), by decide +kernel, by decide +kernel, by decide +kernel, (jin_1 _ (List.mem_of_getElem? (i := 5) rfl)), fun h => absurd h (by decide), rfl, jd_X12_broke, by decide⟩
theorem jmo_219 : jmo jm_X11_where := ⟨by decide +kernel, (jin_49 _ (List.mem_of_getElem? (i := 20) rfl)), by decide +kernel, by decide +kernel, by decide +kernel, (jin_1 _ (List.mem_of_getElem? (i := 2) rfl)), fun h => absurd h (by decide), rfl, jd_X11_where, by decide⟩
theorem jmo_220 : jmo jm_X12_where := ⟨by decide +kernel, (jin_50 _ (List.mem_of_getElem? (i := 1) rfl)), by decide +kernel, by decide +kernel, by decide +kernel, (jin_1 _ (List.mem_of_getElem? (i := 5) rfl)), fun h => absurd h (by decide), rfl, jd_X12_where, by decide⟩
theorem jmo_221 : jmo jm_X11_moves := ⟨by decide +kernel, (jin_50 _ (List.mem_of_getElem? (i := 5) rfl)), by decide +kernel, by decide +kernel, by decide +kernel, (jin_1 _ (List.mem_of_getElem? (i := 2) rfl)), fun h => absurd h (by decide), rfl, jd_X11_moves, by decide⟩
theorem jmo_222 : jmo jm_X12_moves := ⟨by decide +kernel, (jin_50 _ (List.mem_of_getElem? (i := 10) rfl)), by decide +kernel, by decide +kernel, by decide +kernel, (jin_1 _ (List.mem_of_getElem? (i := 5) rfl)), fun h => absurd h (by decide), rfl, jd_X12_moves, by decide⟩
theorem jmo_223 : jmo jm_X11_value := ⟨by decide +kernel, (jin_50 _ (List.mem_of_getElem? (i := 14) rfl)), by decide +kernel, by decide +kernel, by decide +kernel, (jin_1 _ (List.mem_of_getElem? (i := 2) rfl)), fun h => absurd h (by decide), rfl, jd_X11_value, by decide⟩
theorem jmo_224 : jmo jm_X7_keptPart := ⟨by decide +kernel, (jin_50 _ (List.mem_of_getElem? (i := 19) rfl)), by decide +kernel, by decide +kernel, by decide +kernel, (jin_2 _ (List.mem_of_getElem? (i := 10) rfl)), fun h => absurd h (by decide), rfl, jd_X7_keptPart, by decide⟩
theorem jmo_225 : jmo jm_X10_partAt := ⟨by decide +kernel, (jin_50 _ (List.mem_of_getElem? (i := 23) rfl)), by decide +kernel, by decide +kernel, by decide +kernel, (jin_7 _ (List.mem_of_getElem? (i := 17) rfl)), fun h => absurd h (by decide), rfl, jd_X10_partAt, by decide⟩
theorem jmo_226 : jmo jm_X12_value := ⟨by decide +kernel, (jin_51 _ (List.mem_of_getElem? (i := 3) rfl)), by decide +kernel, by decide +kernel, by decide +kernel, (jin_1 _ (List.mem_of_getElem? (i := 5) rfl)), fun h => absurd h (by decide), rfl, jd_X12_value, by decide⟩
theorem jmo_227 : jmo jm_X11_factor := ⟨by decide +kernel, (jin_51 _ (List.mem_of_getElem? (i := 7) rfl)), by decide +kernel, by decide +kernel, by decide +kernel, (jin_1 _ (List.mem_of_getElem? (i := 2) rfl)), fun h => absurd h (by decide), rfl, jd_X11_factor, by decide⟩
theorem jmo_228 : jmo jm_X4_addFactor := ⟨by decide +kernel, (jin_51 _ (List.mem_of_getElem? (i := 11) rfl)), by decide +kernel, by decide +kernel, by decide +kernel, (jin_2 _ (List.mem_of_getElem? (i := 14) rfl)), fun h => absurd h (by decide), rfl, jd_X4_addFactor, by decide⟩
theorem jmo_229 : jmo jm_X12_factor := ⟨by decide +kernel, (jin_51 _ (List.mem_of_getElem? (i := 17) rfl)), by decide +kernel, by decide +kernel, by decide +kernel, (jin_1 _ (List.mem_of_getElem? (i := 5) rfl)), fun h => absurd h (by decide), rfl, jd_X12_factor, by decide⟩
theorem jmo_230 : jmo jm_X11_clear := ⟨by decide +kernel, (jin_51 _ (List.mem_of_getElem? (i := 22) rfl)), by decide +kernel, by decide +kernel, by decide +kernel, (jin_1 _ (List.mem_of_getElem? (i := 2) rfl)), fun h => absurd h (by decide), rfl, jd_X11_clear, by decide⟩
theorem jmo_231 : jmo jm_X4_removeAll := ⟨by decide +kernel, (jin_52 _ (List.mem_of_getElem? (i := 2) rfl)), by decide +kernel, by decide +kernel, by decide +kernel, (jin_2 _ (List.mem_of_getElem? (i := 14) rfl)), fun h => absurd h (by decide), rfl, jd_X4_removeAll, by decide⟩
theorem jmo_232 : jmo jm_X12_clear := ⟨by decide +kernel, (jin_52 _ (List.mem_of_getElem? (i := 6) rfl)), by decide +kernel, by decide +kernel, by decide +kernel, (jin_1 _ (List.mem_of_getElem? (i := 5) rfl)), fun h => absurd h (by decide), rfl, jd_X12_clear, by decide⟩
theorem jmo_233 : jmo jm_X11_fewest := ⟨by decide +kernel, (jin_52 _ (List.mem_of_getElem? (i := 10) rfl)), by decide +kernel, by decide +kernel, by decide +kernel, (jin_1 _ (List.mem_of_getElem? (i := 2) rfl)), fun h => absurd h (by decide), rfl, jd_X11_fewest, by decide⟩
theorem jmo_234 : jmo jm_X4_settle := ⟨by decide +kernel, (jin_52 _ (List.mem_of_getElem? (i := 18) rfl)), by decide +kernel, by decide +kernel, by decide +kernel, (jin_2 _ (List.mem_of_getElem? (i := 14) rfl)), fun h => absurd h (by decide), rfl, jd_X4_settle, by decide⟩
theorem jmo_235 : jmo jm_X4_hasTimes := ⟨by decide +kernel, (jin_53 _ (List.mem_of_getElem? (i := 0) rfl)), by decide +kernel, by decide +kernel, by decide +kernel, (jin_2 _ (List.mem_of_getElem? (i := 14) rfl)), fun h => absurd h (by decide), rfl, jd_X4_hasTimes, by decide⟩
theorem jmo_236 : jmo jm_X4_isOver := ⟨by decide +kernel, (jin_53 _ (List.mem_of_getElem? (i := 4) rfl)), by decide +kernel, by decide +kernel, by decide +kernel, (jin_2 _ (List.mem_of_getElem? (i := 14) rfl)), fun h => absurd h (by decide), rfl, jd_X4_isOver, by decide⟩
theorem jmo_237 : jmo jm_X4_tryOrder := ⟨by decide +kernel, (jin_53 _ (List.mem_of_getElem? (i := 8) rfl)), by decide +kernel, by decide +kernel, by decide +kernel, (jin_2 _ (List.mem_of_getElem? (i := 14) rfl)), fun h => absurd h (by decide), rfl, jd_X4_tryOrder, by decide⟩
theorem jmo_238 : jmo jm_X4_toNextTrial := ⟨by decide +kernel, (jin_54 _ (List.mem_of_getElem? (i := 3) rfl)), by decide +kernel, by decide +kernel, by decide +kernel, (jin_2 _ (List.mem_of_getElem? (i := 14) rfl)), fun h => absurd h (by decide), rfl, jd_X4_toNextTrial, by decide⟩
theorem jmo_239 : jmo jm_X4_swapTrials := ⟨by decide +kernel, (jin_54 _ (List.mem_of_getElem? (i := 7) rfl)), by decide +kernel, by decide +kernel, by decide +kernel, (jin_2 _ (List.mem_of_getElem? (i := 14) rfl)), fun h => absurd h (by decide), rfl, jd_X4_swapTrials, by decide⟩
theorem jmo_240 : jmo jm_X12_fewest := ⟨by decide +kernel, (jin_54 _ (List.mem_of_getElem? (i := 11) rfl)), by decide +kernel, by decide +kernel, by decide +kernel, (jin_1 _ (List.mem_of_getElem? (i := 5) rfl)), fun h => absurd h (by decide), rfl, jd_X12_fewest, by decide⟩
theorem jmo_241 : jmo jm_X12_ordered := ⟨by decide +kernel, (jin_54 _ (List.mem_of_getElem? (i := 18) rfl)), by decide +kernel, by decide +kernel, by decide +kernel, (jin_1 _ (List.mem_of_getElem? (i := 5) rfl)), fun h => absurd h (by decide), rfl, jd_X12_ordered, by decide⟩
theorem jmo_242 : jmo jm_X12_tries := ⟨by decide +kernel, (jin_55 _ (List.mem_of_getElem? (i := 1) rfl)), by decide +kernel, by decide +kernel, by decide +kernel, (jin_1 _ (List.mem_of_getElem? (i := 5) rfl)), fun h => absurd h (by decide), rfl, jd_X12_tries, by decide⟩
theorem jmo_243 : jmo jm_X12_turns := ⟨by decide +kernel, (jin_55 _ (List.mem_of_getElem? (i := 5) rfl)), by decide +kernel, by decide +kernel, by decide +kernel, (jin_1 _ (List.mem_of_getElem? (i := 5) rfl)), fun h => absurd h (by decide), rfl, jd_X12_turns, by decide⟩
theorem jmo_244 : jmo jm_X12_swap := ⟨by decide +kernel, (jin_55 _ (List.mem_of_getElem? (i := 9) rfl)), by decide +kernel, by decide +kernel, by decide +kernel, (jin_1 _ (List.mem_of_getElem? (i := 5) rfl)), fun h => absurd h (by decide), rfl, jd_X12_swap, by decide⟩
theorem jmo_245 : jmo jm_X11_order := ⟨by decide +kernel, (jin_55 _ (List.mem_of_getElem? (i := 13) rfl)), by decide +kernel, by decide +kernel, by decide +kernel, (jin_1 _ (List.mem_of_getElem? (i := 2) rfl)), fun h => absurd h (by decide), rfl, jd_X11_order, by decide⟩
theorem jmo_246 : jmo jm_X4_factorInOrder := ⟨by decide +kernel, (jin_55 _ (List.mem_of_getElem? (i := 17) rfl)), by decide +kernel, by decide +kernel, by decide +kernel, (jin_2 _ (List.mem_of_getElem? (i := 14) rfl)), fun h => absurd h (by decide), rfl, jd_X4_factorInOrder, by decide⟩
theorem jmo_247 : jmo jm_X12_order := ⟨by decide +kernel, (jin_55 _ (List.mem_of_getElem? (i := 22) rfl)), by decide +kernel, by decide +kernel, by decide +kernel, (jin_1 _ (List.mem_of_getElem? (i := 5) rfl)), fun h => absurd h (by decide), rfl, jd_X12_order, by decide⟩
theorem jmo_248 : jmo jm_X11_step := ⟨by decide +kernel, (jin_56 _ (List.mem_of_getElem? (i := 2) rfl)), by decide +kernel, by decide +kernel, by decide +kernel, (jin_1 _ (List.mem_of_getElem? (i := 2) rfl)), fun h => absurd h (by decide), rfl, jd_X11_step, by decide⟩
theorem jmo_249 : jmo jm_X11_isGap := ⟨by decide +kernel, (jin_56 _ (List.mem_of_getElem? (i := 6) rfl)), by decide +kernel, by decide +kernel, by decide +kernel, (jin_1 _ (List.mem_of_getElem? (i := 2) rfl)), fun h => absurd h (by decide), rfl, jd_X11_isGap, by decide⟩
theorem jmo_250 : jmo jm_X8_partStep := ⟨by decide +kernel, (jin_56 _ (List.mem_of_getElem? (i := 10) rfl)), by decide +kernel, by decide +kernel, by decide +kernel, (jin_8 _ (List.mem_of_getElem? (i := 18) rfl)), fun h => absurd h (by decide), rfl, jd_X8_partStep, by decide⟩
theorem jmo_251 : jmo jm_X8_isWideEnough := ⟨by decide +kernel, (jin_56 _ (List.mem_of_getElem? (i := 15) rfl)), by decide +kernel, by decide +kernel, by decide +kernel, (jin_8 _ (List.mem_of_getElem? (i := 18) rfl)), fun h => absurd h (by decide), rfl, jd_X8_isWideEnough, by decide⟩
theorem jmo_252 : jmo jm_X8_truePlace := ⟨by decide +kernel, (jin_56 _ (List.mem_of_getElem? (i := 19) rfl)), by decide +kernel, by decide +kernel, by decide +kernel, (jin_8 _ (List.mem_of_getElem? (i := 18) rfl)), fun h => absurd h (by decide), rfl, jd_X8_truePlace, by decide⟩
theorem jmo_253 : jmo jm_X12_step := ⟨by decide +kernel, (jin_56 _ (List.mem_of_getElem? (i := 23) rfl)), by decide +kernel, by decide +kernel, by decide +kernel, (jin_1 _ (List.mem_of_getElem? (i := 5) rfl)), fun h => absurd h (by decide), rfl, jd_X12_step, by decide⟩
theorem jmo_254 : jmo jm_X12_divided := ⟨by decide +kernel, (jin_57 _ (List.mem_of_getElem? (i := 3) rfl)), by decide +kernel, by decide +kernel, by decide +kernel, (jin_1 _ (List.mem_of_getElem? (i := 5) rfl)), fun h => absurd h (by decide), rfl, jd_X12_divided, by decide⟩
theorem jmo_255 : jmo jm_X12_stepOf := ⟨by decide +kernel, (jin_57 _ (List.mem_of_getElem? (i := 6) rfl)), by decide +kernel, by decide +kernel, by decide +kernel, (jin_1 _ (List.mem_of_getElem? (i := 5) rfl)), fun h => absurd h (by decide), rfl, jd_X12_stepOf, by decide⟩
theorem jmo_256 : jmo jm_X12_isFar := ⟨by decide +kernel, (jin_57 _ (List.mem_of_getElem? (i := 10) rfl)), by decide +kernel, by decide +kernel, by decide +kernel, (jin_1 _ (List.mem_of_getElem? (i := 5) rfl)), fun h => absurd h (by decide), rfl, jd_X12_isFar, by decide⟩
theorem jmo_257 : jmo jm_X11_marks := ⟨by decide +kernel, (jin_57 _ (List.mem_of_getElem? (i := 14) rfl)), by decide +kernel, by decide +kernel, by decide +kernel, (jin_1 _ (List.mem_of_getElem? (i := 2) rfl)), fun h => absurd h (by decide), rfl, jd_X11_marks, by decide⟩
theorem jmo_258 : jmo jm_X8_dividedMarks := ⟨by decide +kernel, (jin_57 _ (List.mem_of_getElem? (i := 18) rfl)), by decide +kernel, by decide +kernel, by decide +kernel, (jin_8 _ (List.mem_of_getElem? (i := 18) rfl)), fun h => absurd h (by decide), rfl, jd_X8_dividedMarks, by decide⟩
theorem jmo_259 : jmo jm_X12_marks := ⟨by decide +kernel, (jin_57 _ (List.mem_of_getElem? (i := 23) rfl)), by decide +kernel, by decide +kernel, by decide +kernel, (jin_1 _ (List.mem_of_getElem? (i := 5) rfl)), fun h => absurd h (by decide), rfl, jd_X12_marks, by decide⟩
theorem jmo_260 : jmo jm_X11_chart := ⟨by decide +kernel, (jin_58 _ (List.mem_of_getElem? (i := 3) rfl)), by decide +kernel, by decide +kernel, by decide +kernel, (jin_1 _ (List.mem_of_getElem? (i := 2) rfl)), fun h => absurd h (by decide), rfl, jd_X11_chart, by decide⟩
theorem jmo_261 : jmo jm_X1_draw := ⟨by decide +kernel, (jin_58 _ (List.mem_of_getElem? (i := 7) rfl)), by decide +kernel, by decide +kernel, by decide +kernel, (jin_2 _ (List.mem_of_getElem? (i := 18) rfl)), fun h => absurd h (by decide), rfl, jd_X1_draw, by decide⟩
theorem jmo_262 : jmo jm_X12_chart := ⟨by decide +kernel, (jin_58 _ (List.mem_of_getElem? (i := 11) rfl)), by decide +kernel, by decide +kernel, by decide +kernel, (jin_1 _ (List.mem_of_getElem? (i := 5) rfl)), fun h => absurd h (by decide), rfl, jd_X12_chart, by decide⟩
theorem jmo_263 : jmo jm_X11_thread := ⟨by decide +kernel, (jin_58 _ (List.mem_of_getElem? (i := 15) rfl)), by decide +kernel, by decide +kernel, by decide +kernel, (jin_1 _ (List.mem_of_getElem? (i := 2) rfl)), fun h => absurd h (by decide), rfl, jd_X11_thread, by decide⟩
theorem jmo_264 : jmo jm_X1_middleReach := ⟨by decide +kernel, (jin_58 _ (List.mem_of_getElem? (i := 20) rfl)), by decide +kernel, by decide +kernel, by decide +kernel, (jin_2 _ (List.mem_of_getElem? (i := 18) rfl)), fun h => absurd h (by decide), rfl, jd_X1_middleReach, by decide⟩
theorem jmo_265 : jmo jm_X3_nearestMark := ⟨by decide +kernel, (jin_59 _ (List.mem_of_getElem? (i := 3) rfl)), by decide +kernel, by decide +kernel, by decide +kernel, (jin_1 _ (List.mem_of_getElem? (i := 14) rfl)), fun h => absurd h (by decide), rfl, jd_X3_nearestMark, by decide⟩
theorem jmo_266 : jmo jm_X12_thread := ⟨by decide +kernel, (jin_59 _ (List.mem_of_getElem? (i := 11) rfl)), by decide +kernel, by decide +kernel, by decide +kernel, (jin_1 _ (List.mem_of_getElem? (i := 5) rfl)), fun h => absurd h (by decide), rfl, jd_X12_thread, by decide⟩
theorem jmo_267 : jmo jm_X11_design := ⟨by decide +kernel, (jin_59 _ (List.mem_of_getElem? (i := 15) rfl)), by decide +kernel, by decide +kernel, by decide +kernel, (jin_1 _ (List.mem_of_getElem? (i := 2) rfl)), fun h => absurd h (by decide), rfl, jd_X11_design, by decide⟩
theorem jmo_268 : jmo jm_X1_firstFor := ⟨by decide +kernel, (jin_59 _ (List.mem_of_getElem? (i := 18) rfl)), by decide +kernel, by decide +kernel, by decide +kernel, (jin_2 _ (List.mem_of_getElem? (i := 18) rfl)), fun h => absurd h (by decide), rfl, jd_X1_firstFor, by decide⟩
theorem jmo_269 : jmo jm_X1_middleFor := ⟨by decide +kernel, (jin_59 _ (List.mem_of_getElem? (i := 21) rfl)), by decide +kernel, by decide +kernel, by decide +kernel, (jin_2 _ (List.mem_of_getElem? (i := 18) rfl)), fun h => absurd h (by decide), rfl, jd_X1_middleFor, by decide⟩
theorem jmo_270 : jmo jm_X12_design := ⟨by decide +kernel, (jin_60 _ (List.mem_of_getElem? (i := 1) rfl)), by decide +kernel, by decide +kernel, by decide +kernel, (jin_1 _ (List.mem_of_getElem? (i := 5) rfl)), fun h => absurd h (by decide), rfl, jd_X12_design, by decide⟩
theorem jmo_271 : jmo jm_X11_shown := ⟨by decide +kernel, (jin_60 _ (List.mem_of_getElem? (i := 5) rfl)), by decide +kernel, by decide +kernel, by decide +kernel, (jin_1 _ (List.mem_of_getElem? (i := 2) rfl)), fun h => absurd h (by decide), rfl, jd_X11_shown, by decide⟩
theorem jmo_272 : jmo jm_X0_slot := ⟨by decide +kernel, (jin_60 _ (List.mem_of_getElem? (i := 9) rfl)), by decide +kernel, by decide +kernel, by decide +kernel, (jin_2 _ (List.mem_of_getElem? (i := 22) rfl)), fun h => absurd h (by decide), rfl, jd_X0_slot, by decide⟩
theorem jmo_273 : jmo jm_X8_stretchOf := ⟨by decide +kernel, (jin_60 _ (List.mem_of_getElem? (i := 12) rfl)), by decide +kernel, by decide +kernel, by decide +kernel, (jin_8 _ (List.mem_of_getElem? (i := 18) rfl)), fun h => absurd h (by decide), rfl, jd_X8_stretchOf, by decide⟩
theorem jmo_274 : jmo jm_X0_addShown := ⟨by decide +kernel, (jin_60 _ (List.mem_of_getElem? (i := 17) rfl)), by decide +kernel, by decide +kernel, by decide +kernel, (jin_2 _ (List.mem_of_getElem? (i := 22) rfl)), fun h => absurd h (by decide), rfl, jd_X0_addShown, by decide⟩
theorem jmo_275 : jmo jm_X12_shown := ⟨by decide +kernel, (jin_60 _ (List.mem_of_getElem? (i := 22) rfl)), by decide +kernel, by decide +kernel, by decide +kernel, (jin_1 _ (List.mem_of_getElem? (i := 5) rfl)), fun h => absurd h (by decide), rfl, jd_X12_shown, by decide⟩
theorem jmo_276 : jmo jm_X11_strike := ⟨by decide +kernel, (jin_61 _ (List.mem_of_getElem? (i := 3) rfl)), by decide +kernel, by decide +kernel, by decide +kernel, (jin_1 _ (List.mem_of_getElem? (i := 2) rfl)), fun h => absurd h (by decide), rfl, jd_X11_strike, by decide⟩
theorem jmo_277 : jmo jm_X0_addStrike := ⟨by decide +kernel, (jin_61 _ (List.mem_of_getElem? (i := 7) rfl)), by decide +kernel, by decide +kernel, by decide +kernel, (jin_2 _ (List.mem_of_getElem? (i := 22) rfl)), fun h => absurd h (by decide), rfl, jd_X0_addStrike, by decide⟩
theorem jmo_278 : jmo jm_X12_strike := ⟨by decide +kernel, (jin_61 _ (List.mem_of_getElem? (i := 11) rfl)), by decide +kernel, by decide +kernel, by decide +kernel, (jin_1 _ (List.mem_of_getElem? (i := 5) rfl)), fun h => absurd h (by decide), rfl, jd_X12_strike, by decide⟩
theorem jmo_279 : jmo jm_X11_guesses := ⟨by decide +kernel, (jin_61 _ (List.mem_of_getElem? (i := 15) rfl)), by decide +kernel, by decide +kernel, by decide +kernel, (jin_1 _ (List.mem_of_getElem? (i := 2) rfl)), fun h => absurd h (by decide), rfl, jd_X11_guesses, by decide⟩
theorem jmo_280 : jmo jm_X11_weighed := ⟨by decide +kernel, (jin_61 _ (List.mem_of_getElem? (i := 19) rfl)), by decide +kernel, by decide +kernel, by decide +kernel, (jin_1 _ (List.mem_of_getElem? (i := 2) rfl)), fun h => absurd h (by decide), rfl, jd_X11_weighed, by decide⟩
theorem jmo_281 : jmo jm_X0_weigh := ⟨by decide +kernel, (jin_62 _ (List.mem_of_getElem? (i := 1) rfl)), by decide +kernel, by decide +kernel, by decide +kernel, (jin_2 _ (List.mem_of_getElem? (i := 22) rfl)), fun h => absurd h (by decide), rfl, jd_X0_weigh, by decide⟩
theorem jmo_282 : jmo jm_X0_noteKnown := ⟨by decide +kernel, (jin_62 _ (List.mem_of_getElem? (i := 8) rfl)), by decide +kernel, by decide +kernel, by decide +kernel, (jin_2 _ (List.mem_of_getElem? (i := 22) rfl)), fun h => absurd h (by decide), rfl, jd_X0_noteKnown, by decide⟩
theorem jmo_283 : jmo jm_X0_weighFlaws := ⟨by decide +kernel, (jin_62 _ (List.mem_of_getElem? (i := 12) rfl)), by decide +kernel, by decide +kernel, by decide +kernel, (jin_2 _ (List.mem_of_getElem? (i := 22) rfl)), fun h => absurd h (by decide), rfl, jd_X0_weighFlaws, by decide⟩
theorem jmo_284 : jmo jm_X0_flawAt := ⟨by decide +kernel, (jin_62 _ (List.mem_of_getElem? (i := 15) rfl)), by decide +kernel, by decide +kernel, by decide +kernel, (jin_2 _ (List.mem_of_getElem? (i := 22) rfl)), fun h => absurd h (by decide), rfl, jd_X0_flawAt, by decide⟩
theorem jmo_285 : jmo jm_X0_fitting := ⟨by decide +kernel, (jin_62 _ (List.mem_of_getElem? (i := 19) rfl)), by decide +kernel, by decide +kernel, by decide +kernel, (jin_2 _ (List.mem_of_getElem? (i := 22) rfl)), fun h => absurd h (by decide), rfl, jd_X0_fitting, by decide⟩
theorem jmo_286 : jmo jm_X12_guesses := ⟨by decide +kernel, (jin_62 _ (List.mem_of_getElem? (i := 23) rfl)), by decide +kernel, by decide +kernel, by decide +kernel, (jin_1 _ (List.mem_of_getElem? (i := 5) rfl)), fun h => absurd h (by decide), rfl, jd_X12_guesses, by decide⟩
theorem jmo_287 : jmo jm_X12_isKnown := ⟨by decide +kernel, (jin_63 _ (List.mem_of_getElem? (i := 3) rfl)), by decide +kernel, by decide +kernel, by decide +kernel, (jin_1 _ (List.mem_of_getElem? (i := 5) rfl)), fun h => absurd h (by decide), rfl, jd_X12_isKnown, by decide⟩
theorem jmo_288 : jmo jm_X12_keep := ⟨by decide +kernel, (jin_63 _ (List.mem_of_getElem? (i := 7) rfl)), by decide +kernel, by decide +kernel, by decide +kernel, (jin_1 _ (List.mem_of_getElem? (i := 5) rfl)), fun h => absurd h (by decide), rfl, jd_X12_keep, by decide⟩
theorem jmo_289 : jmo jm_X12_fitting := ⟨by decide +kernel, (jin_63 _ (List.mem_of_getElem? (i := 11) rfl)), by decide +kernel, by decide +kernel, by decide +kernel, (jin_1 _ (List.mem_of_getElem? (i := 5) rfl)), fun h => absurd h (by decide), rfl, jd_X12_fitting, by decide⟩
theorem jmo_290 : jmo jm_X12_fits := ⟨by decide +kernel, (jin_63 _ (List.mem_of_getElem? (i := 17) rfl)), by decide +kernel, by decide +kernel, by decide +kernel, (jin_1 _ (List.mem_of_getElem? (i := 5) rfl)), fun h => absurd h (by decide), rfl, jd_X12_fits, by decide⟩
theorem jmo_291 : jmo jm_X12_guessedAt := ⟨by decide +kernel, (jin_63 _ (List.mem_of_getElem? (i := 21) rfl)), by decide +kernel, by decide +kernel, by decide +kernel, (jin_1 _ (List.mem_of_getElem? (i := 5) rfl)), fun h => absurd h (by decide), rfl, jd_X12_guessedAt, by decide⟩
theorem jmo_292 : jmo jm_X11_guess := ⟨by decide +kernel, (jin_64 _ (List.mem_of_getElem? (i := 1) rfl)), by decide +kernel, by decide +kernel, by decide +kernel, (jin_1 _ (List.mem_of_getElem? (i := 2) rfl)), fun h => absurd h (by decide), rfl, jd_X11_guess, by decide⟩
theorem jmo_293 : jmo jm_X0_fittingAt := ⟨by decide +kernel, (jin_64 _ (List.mem_of_getElem? (i := 5) rfl)), by decide +kernel, by decide +kernel, by decide +kernel, (jin_2 _ (List.mem_of_getElem? (i := 22) rfl)), fun h => absurd h (by decide), rfl, jd_X0_fittingAt, by decide⟩
theorem jmo_294 : jmo jm_X0_guessPart := ⟨by decide +kernel, (jin_64 _ (List.mem_of_getElem? (i := 9) rfl)), by decide +kernel, by decide +kernel, by decide +kernel, (jin_2 _ (List.mem_of_getElem? (i := 22) rfl)), fun h => absurd h (by decide), rfl, jd_X0_guessPart, by decide⟩
theorem jmo_295 : jmo jm_X12_guess := ⟨by decide +kernel, (jin_64 _ (List.mem_of_getElem? (i := 13) rfl)), by decide +kernel, by decide +kernel, by decide +kernel, (jin_1 _ (List.mem_of_getElem? (i := 5) rfl)), fun h => absurd h (by decide), rfl, jd_X12_guess, by decide⟩
theorem jmo_296 : jmo jm_X11_sure := ⟨by decide +kernel, (jin_64 _ (List.mem_of_getElem? (i := 17) rfl)), by decide +kernel, by decide +kernel, by decide +kernel, (jin_1 _ (List.mem_of_getElem? (i := 2) rfl)), fun h => absurd h (by decide), rfl, jd_X11_sure, by decide⟩
theorem jmo_297 : jmo jm_X0_blamedScale := ⟨by decide +kernel, (jin_64 _ (List.mem_of_getElem? (i := 21) rfl)), by decide +kernel, by decide +kernel, by decide +kernel, (jin_2 _ (List.mem_of_getElem? (i := 22) rfl)), fun h => absurd h (by decide), rfl, jd_X0_blamedScale, by decide⟩
theorem jmo_298 : jmo jm_X12_sure := ⟨by decide +kernel, (jin_65 _ (List.mem_of_getElem? (i := 2) rfl)), by decide +kernel, by decide +kernel, by decide +kernel, (jin_1 _ (List.mem_of_getElem? (i := 5) rfl)), fun h => absurd h (by decide), rfl, jd_X12_sure, by decide⟩
theorem jmo_299 : jmo jm_X11_odd := ⟨by decide +kernel, (jin_65 _ (List.mem_of_getElem? (i := 6) rfl)), by decide +kernel, by decide +kernel, by decide +kernel, (jin_1 _ (List.mem_of_getElem? (i := 2) rfl)), fun h => absurd h (by decide), rfl, jd_X11_odd, by decide⟩
theorem jmo_300 : jmo jm_X0_oddOne := ⟨by decide +kernel, (jin_65 _ (List.mem_of_getElem? (i := 10) rfl)), by decide +kernel, by decide +kernel, by decide +kernel, (jin_2 _ (List.mem_of_getElem? (i := 22) rfl)), fun h => absurd h (by decide), rfl, jd_X0_oddOne, by decide⟩
theorem jmo_301 : jmo jm_X12_odd := ⟨by decide +kernel, (jin_65 _ (List.mem_of_getElem? (i := 14) rfl)), by decide +kernel, by decide +kernel, by decide +kernel, (jin_1 _ (List.mem_of_getElem? (i := 5) rfl)), fun h => absurd h (by decide), rfl, jd_X12_odd, by decide⟩
theorem jmo_302 : jmo jm_X11_count := ⟨by decide +kernel, (jin_65 _ (List.mem_of_getElem? (i := 18) rfl)), by decide +kernel, by decide +kernel, by decide +kernel, (jin_1 _ (List.mem_of_getElem? (i := 2) rfl)), fun h => absurd h (by decide), rfl, jd_X11_count, by decide⟩
theorem jmo_303 : jmo jm_X12_count := ⟨by decide +kernel, (jin_65 _ (List.mem_of_getElem? (i := 22) rfl)), by decide +kernel, by decide +kernel, by decide +kernel, (jin_1 _ (List.mem_of_getElem? (i := 5) rfl)), fun h => absurd h (by decide), rfl, jd_X12_count, by decide⟩
theorem jmo_all : jall (fun _ M => jmo M) 0 jMU := ⟨⟨jmo_0, jmo_1, jmo_2, jmo_3, jmo_4, jmo_5, jmo_6, jmo_7, jmo_8, jmo_9, jmo_10, jmo_11, jmo_12, jmo_13, jmo_14, jmo_15, trivial⟩, ⟨jmo_16, jmo_17, jmo_18, jmo_19, jmo_20, jmo_21, jmo_22, jmo_23, jmo_24, jmo_25, jmo_26, jmo_27, jmo_28, jmo_29, jmo_30, jmo_31, trivial⟩, ⟨jmo_32, jmo_33, jmo_34, jmo_35, jmo_36, jmo_37, jmo_38, jmo_39, jmo_40, jmo_41, jmo_42, jmo_43, jmo_44, jmo_45, jmo_46, jmo_47, trivial⟩, ⟨jmo_48, jmo_49, jmo_50, jmo_51, jmo_52, jmo_53, jmo_54, jmo_55, jmo_56, jmo_57, jmo_58, jmo_59, jmo_60, jmo_61, jmo_62, jmo_63, trivial⟩, ⟨jmo_64, jmo_65, jmo_66, jmo_67, jmo_68, jmo_69, jmo_70, jmo_71, jmo_72, jmo_73, jmo_74, jmo_75, jmo_76, jmo_77, jmo_78, jmo_79, trivial⟩, ⟨jmo_80, jmo_81, jmo_82, jmo_83, jmo_84, jmo_85, jmo_86, jmo_87, jmo_88, jmo_89, jmo_90, jmo_91, jmo_92, jmo_93, jmo_94, jmo_95, trivial⟩, ⟨jmo_96, jmo_97, jmo_98, jmo_99, jmo_100, jmo_101, jmo_102, jmo_103, jmo_104, jmo_105, jmo_106, jmo_107, jmo_108, jmo_109, jmo_110, jmo_111, trivial⟩, ⟨jmo_112, jmo_113, jmo_114, jmo_115, jmo_116, jmo_117, jmo_118, jmo_119, jmo_120, jmo_121, jmo_122, jmo_123, jmo_124, jmo_125, jmo_126, jmo_127, trivial⟩, ⟨jmo_128, jmo_129, jmo_130, jmo_131, jmo_132, jmo_133, jmo_134, jmo_135, jmo_136, jmo_137, jmo_138, jmo_139, jmo_140, jmo_141, jmo_142, jmo_143, trivial⟩, ⟨jmo_144, jmo_145, jmo_146, jmo_147, jmo_148, jmo_149, jmo_150, jmo_151, jmo_152, jmo_153, jmo_154, jmo_155, jmo_156, jmo_157, jmo_158, jmo_159, trivial⟩, ⟨jmo_160, jmo_161, jmo_162, jmo_163, jmo_164, jmo_165, jmo_166, jmo_167, jmo_168, jmo_169, jmo_170, jmo_171, jmo_172, jmo_173, jmo_174, jmo_175, trivial⟩, ⟨jmo_176, jmo_177, jmo_178, jmo_179, jmo_180, jmo_181, jmo_182, jmo_183, jmo_184, jmo_185, jmo_186, jmo_187, jmo_188, jmo_189, jmo_190, jmo_191, trivial⟩, ⟨jmo_192, jmo_193, jmo_194, jmo_195, jmo_196, jmo_197, jmo_198, jmo_199, jmo_200, jmo_201, jmo_202, jmo_203, jmo_204, jmo_205, jmo_206, jmo_207, trivial⟩, ⟨jmo_208, jmo_209, jmo_210, jmo_211, jmo_212, jmo_213, jmo_214, jmo_215, jmo_216, jmo_217, jmo_218, jmo_219, jmo_220, jmo_221, jmo_222, jmo_223, trivial⟩, ⟨jmo_224, jmo_225, jmo_226, jmo_227, jmo_228, jmo_229, jmo_230, jmo_231, jmo_232, jmo_233, jmo_234, jmo_235, jmo_236, jmo_237, jmo_238, jmo_239, trivial⟩, ⟨jmo_240, jmo_241, jmo_242, jmo_243, jmo_244, jmo_245, jmo_246, jmo_247, jmo_248, jmo_249, jmo_250, jmo_251, jmo_252, jmo_253, jmo_254, jmo_255, trivial⟩, ⟨jmo_256, jmo_257, jmo_258, jmo_259, jmo_260, jmo_261, jmo_262, jmo_263, jmo_264, jmo_265, jmo_266, jmo_267, jmo_268, jmo_269, jmo_270, jmo_271, trivial⟩, ⟨jmo_272, jmo_273, jmo_274, jmo_275, jmo_276, jmo_277, jmo_278, jmo_279, jmo_280, jmo_281, jmo_282, jmo_283, jmo_284, jmo_285, jmo_286, jmo_287, trivial⟩, ⟨jmo_288, jmo_289, jmo_290, jmo_291, jmo_292, jmo_293, jmo_294, jmo_295, jmo_296, jmo_297, jmo_298, jmo_299, jmo_300, jmo_301, jmo_302, jmo_303, trivial⟩, trivial⟩
theorem jM_ok {i : Nat} {M : JM} (h : jM i = some M) : jmo M := jall_tw jmo_all h
theorem jcp_ok {own idx : Nat} {e : JE} (h : jcp own idx = some e) : jeOK (jcn own) idx e := by
  unfold jcp jcpT at h
  split at h
  · exact jall_tw jo_0 h
  · exact jall_tw jo_1 h
  · exact jall_tw jo_2 h
  · exact jall_tw jo_3 h
  · exact jall_tw jo_4 h
  · exact jall_tw jo_5 h
  · exact jall_tw jo_6 h
  · exact jall_tw jo_7 h
  · exact jall_tw jo_8 h
  · exact jall_tw jo_9 h
  · exact jall_tw jo_10 h
  · exact jall_tw jo_11 h
  · exact jall_tw jo_12 h
  · exact jall_tw jo_13 h
  · exact jall_tw jo_14 h
  · exact jall_tw jo_15 h
  · exact jall_tw jo_19 h
  · simp [jtw] at h