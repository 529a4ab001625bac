/-! THE STATE: all cells have fixed shapes -/
abbrev XS : Type := (Nat → Nat → Int32) × (Nat → Nat → Int64) × (Nat → Nat)
abbrev SH : Type := (Nat × Nat × Nat × Nat) ⊕ (Nat × List Nat)
def shL : List SH := [
  .inr (11, [4, 5, 13, 16, 19, 26, 33, 38, 43, 48, 52, 263, 274, 304, 352, 353, 0, 0, 0]),
  .inl (0, 240, 0, 0),
  .inr (9, [2, 0, 0, 0, 7, 12, 0, 0, 0, 0]),
  .inl (0, 0, 0, 0),
  .inr (0, [8, 9, 10, 11, 0, 0, 0, 0, 0]),
  .inl (0, 36, 0, 0),
  .inl (0, 6, 0, 0),
  .inl (0, 6, 0, 0),
  .inl (0, 6, 0, 0),
  .inl (0, 8, 0, 0),
  .inr (2, [2, 0, 0, 0, 15, 0, 0]),
  .inl (0, 0, 0, 0),
  .inl (0, 6, 0, 0),
  .inr (8, [2, 0, 0, 0, 18, 0]),
  .inl (0, 0, 0, 0),
  .inl (0, 16, 0, 0),
  .inr (5, [21, 20, 0, 0]),
  .inl (0, 4, 0, 0),
  .inl (5, 4, 19, 1),
  .inl (0, 240, 0, 0),
  .inl (0, 240, 0, 0),
  .inl (0, 240, 0, 0),
  .inl (0, 240, 0, 0),
  .inr (5, [28, 27, 0, 0]),
  .inl (0, 4, 0, 0),
  .inl (5, 4, 26, 1),
  .inl (0, 16, 0, 0),
  .inl (0, 16, 0, 0),
  .inl (0, 16, 0, 0),
  .inl (0, 16, 0, 0),
  .inr (0, [34, 35, 36, 37, 0, 0, 0, 0, 0]),
  .inl (0, 36, 0, 0),
  .inl (0, 6, 0, 0),
  .inl (0, 6, 0, 0),
  .inl (0, 6, 0, 0),
  .inr (0, [39, 40, 41, 42, 0, 0, 0, 0, 0]),
  .inl (0, 36, 0, 0),
  .inl (0, 6, 0, 0),
  .inl (0, 6, 0, 0),
  .inl (0, 6, 0, 0),
  .inr (0, [44, 45, 46, 47, 0, 0, 0, 0, 0]),
  .inl (0, 36, 0, 0),
  .inl (0, 6, 0, 0),
  .inl (0, 6, 0, 0),
  .inl (0, 6, 0, 0),
  .inr (1, [49, 50, 51]),
  .inl (0, 128, 0, 0),
  .inl (0, 128, 0, 0),
  .inl (0, 128, 0, 0),
  .inr (3, [53, 54, 59, 0, 0, 0]),
  .inl (4, 40, 60, 5),
  .inr (0, [55, 56, 57, 58, 0, 0, 0, 0, 0]),
  .inl (0, 36, 0, 0),
  .inl (0, 6, 0, 0),
  .inl (0, 6, 0, 0),
  .inl (0, 6, 0, 0),
  .inr (1, [60, 61, 62]),
  .inl (0, 128, 0, 0),
  .inl (0, 128, 0, 0),
  .inl (0, 128, 0, 0),
  .inr (0, [64, 65, 66, 67, 0, 0, 0, 0, 0]),
  .inl (0, 36, 0, 0),
  .inl (0, 6, 0, 0),
  .inl (0, 6, 0, 0),
  .inl (0, 6, 0, 0),
  .inr (0, [69, 70, 71, 72, 0, 0, 0, 0, 0]),
  .inl (0, 36, 0, 0),
  .inl (0, 6, 0, 0),
  .inl (0, 6, 0, 0),
  .inl (0, 6, 0, 0),
  .inr (0, [74, 75, 76, 77, 0, 0, 0, 0, 0]),
  .inl (0, 36, 0, 0),
  .inl (0, 6, 0, 0),
  .inl (0, 6, 0, 0),
  .inl (0, 6, 0, 0),
  .inr (0, [79, 80, 81, 82, 0, 0, 0, 0, 0]),
  .inl (0, 36, 0, 0),
  .inl (0, 6, 0, 0),
  .inl (0, 6, 0, 0),
  .inl (0, 6, 0, 0),
  .inr (0, [84, 85, 86, 87, 0, 0, 0, 0, 0]),
  .inl (0, 36, 0, 0),
  .inl (0, 6, 0, 0),
  .inl (0, 6, 0, 0),
  .inl (0, 6, 0, 0),
  .inr (0, [89, 90, 91, 92, 0, 0, 0, 0, 0]),
  .inl (0, 36, 0, 0),
  .inl (0, 6, 0, 0),
  .inl (0, 6, 0, 0),
  .inl (0, 6, 0, 0),
  .inr (0, [94, 95, 96, 97, 0, 0, 0, 0, 0]),
  .inl (0, 36, 0, 0),
  .inl (0, 6, 0, 0),
  .inl (0, 6, 0, 0),
  .inl (0, 6, 0, 0),
  .inr (0, [99, 100, 101, 102, 0, 0, 0, 0, 0]),
  .inl (0, 36, 0, 0),
  .inl (0, 6, 0, 0),
  .inl (0, 6, 0, 0),
  .inl (0, 6, 0, 0),
  .inr (0, [104, 105, 106, 107, 0, 0, 0, 0, 0]),
  .inl (0, 36, 0, 0),
  .inl (0, 6, 0, 0),
  .inl (0, 6, 0, 0),
  .inl (0, 6, 0, 0),
  .inr (0, [109, 110, 111, 112, 0, 0, 0, 0, 0]),
  .inl (0, 36, 0, 0),
  .inl (0, 6, 0, 0),
  .inl (0, 6, 0, 0),
  .inl (0, 6, 0, 0),
  .inr (0, [114, 115, 116, 117, 0, 0, 0, 0, 0]),
  .inl (0, 36, 0, 0),
  .inl (0, 6, 0, 0),
  .inl (0, 6, 0, 0),
  .inl (0, 6, 0, 0),
  .inr (0, [119, 120, 121, 122, 0, 0, 0, 0, 0]),
  .inl (0, 36, 0, 0),
  .inl (0, 6, 0, 0),
  .inl (0, 6, 0, 0),
  .inl (0, 6, 0, 0),
  .inr (0, [124, 125, 126, 127, 0, 0, 0, 0, 0]),
  .inl (0, 36, 0, 0),
  .inl (0, 6, 0, 0),
  .inl (0, 6, 0, 0),
  .inl (0, 6, 0, 0),
  .inr (0, [129, 130, 131, 132, 0, 0, 0, 0, 0]),
  .inl (0, 36, 0, 0),
  .inl (0, 6, 0, 0),
  .inl (0, 6, 0, 0),
  .inl (0, 6, 0, 0),
  .inr (0, [134, 135, 136, 137, 0, 0, 0, 0, 0]),
  .inl (0, 36, 0, 0),
  .inl (0, 6, 0, 0),
  .inl (0, 6, 0, 0),
  .inl (0, 6, 0, 0),
  .inr (0, [139, 140, 141, 142, 0, 0, 0, 0, 0]),
  .inl (0, 36, 0, 0),
  .inl (0, 6, 0, 0),
  .inl (0, 6, 0, 0),
  .inl (0, 6, 0, 0),
  .inr (0, [144, 145, 146, 147, 0, 0, 0, 0, 0]),
  .inl (0, 36, 0, 0),
  .inl (0, 6, 0, 0),
  .inl (0, 6, 0, 0),
  .inl (0, 6, 0, 0),
  .inr (0, [149, 150, 151, 152, 0, 0, 0, 0, 0]),
  .inl (0, 36, 0, 0),
  .inl (0, 6, 0, 0),
  .inl (0, 6, 0, 0),
  .inl (0, 6, 0, 0),
  .inr (0, [154, 155, 156, 157, 0, 0, 0, 0, 0]),
  .inl (0, 36, 0, 0),
  .inl (0, 6, 0, 0),
  .inl (0, 6, 0, 0),
  .inl (0, 6, 0, 0),
  .inr (0, [159, 160, 161, 162, 0, 0, 0, 0, 0]),
  .inl (0, 36, 0, 0),
  .inl (0, 6, 0, 0),
  .inl (0, 6, 0, 0),
  .inl (0, 6, 0, 0),
  .inr (0, [164, 165, 166, 167, 0, 0, 0, 0, 0]),
  .inl (0, 36, 0, 0),
  .inl (0, 6, 0, 0),
  .inl (0, 6, 0, 0),
  .inl (0, 6, 0, 0),
  .inr (0, [169, 170, 171, 172, 0, 0, 0, 0, 0]),
  .inl (0, 36, 0, 0),
  .inl (0, 6, 0, 0),
  .inl (0, 6, 0, 0),
  .inl (0, 6, 0, 0),
  .inr (0, [174, 175, 176, 177, 0, 0, 0, 0, 0]),
  .inl (0, 36, 0, 0),
  .inl (0, 6, 0, 0),
  .inl (0, 6, 0, 0),
  .inl (0, 6, 0, 0),
  .inr (0, [179, 180, 181, 182, 0, 0, 0, 0, 0]),
  .inl (0, 36, 0, 0),
  .inl (0, 6, 0, 0),
  .inl (0, 6, 0, 0),
  .inl (0, 6, 0, 0),
  .inr (0, [184, 185, 186, 187, 0, 0, 0, 0, 0]),
  .inl (0, 36, 0, 0),
  .inl (0, 6, 0, 0),
  .inl (0, 6, 0, 0),
  .inl (0, 6, 0, 0),
  .inr (0, [189, 190, 191, 192, 0, 0, 0, 0, 0]),
  .inl (0, 36, 0, 0),
  .inl (0, 6, 0, 0),
  .inl (0, 6, 0, 0),
  .inl (0, 6, 0, 0),
  .inr (0, [194, 195, 196, 197, 0, 0, 0, 0, 0]),
  .inl (0, 36, 0, 0),
  .inl (0, 6, 0, 0),
  .inl (0, 6, 0, 0),
  .inl (0, 6, 0, 0),
  .inr (0, [199, 200, 201, 202, 0, 0, 0, 0, 0]),
  .inl (0, 36, 0, 0),
  .inl (0, 6, 0, 0),
  .inl (0, 6, 0, 0),
  .inl (0, 6, 0, 0),
  .inr (0, [204, 205, 206, 207, 0, 0, 0, 0, 0]),
  .inl (0, 36, 0, 0),
  .inl (0, 6, 0, 0),
  .inl (0, 6, 0, 0),
  .inl (0, 6, 0, 0),
  .inr (0, [209, 210, 211, 212, 0, 0, 0, 0, 0]),
  .inl (0, 36, 0, 0),
  .inl (0, 6, 0, 0),
  .inl (0, 6, 0, 0),
  .inl (0, 6, 0, 0),
  .inr (0, [214, 215, 216, 217, 0, 0, 0, 0, 0]),
  .inl (0, 36, 0, 0),
  .inl (0, 6, 0, 0),
  .inl (0, 6, 0, 0),
  .inl (0, 6, 0, 0),
  .inr (0, [219, 220, 221, 222, 0, 0, 0, 0, 0]),
  .inl (0, 36, 0, 0),
  .inl (0, 6, 0, 0),
  .inl (0, 6, 0, 0),
  .inl (0, 6, 0, 0),
  .inr (0, [224, 225, 226, 227, 0, 0, 0, 0, 0]),
  .inl (0, 36, 0, 0),
  .inl (0, 6, 0, 0),
  .inl (0, 6, 0, 0),
  .inl (0, 6, 0, 0),
  .inr (0, [229, 230, 231, 232, 0, 0, 0, 0, 0]),
  .inl (0, 36, 0, 0),
  .inl (0, 6, 0, 0),
  .inl (0, 6, 0, 0),
  .inl (0, 6, 0, 0),
  .inr (0, [234, 235, 236, 237, 0, 0, 0, 0, 0]),
  .inl (0, 36, 0, 0),
  .inl (0, 6, 0, 0),
  .inl (0, 6, 0, 0),
  .inl (0, 6, 0, 0),
  .inr (0, [239, 240, 241, 242, 0, 0, 0, 0, 0]),
  .inl (0, 36, 0, 0),
  .inl (0, 6, 0, 0),
  .inl (0, 6, 0, 0),
  .inl (0, 6, 0, 0),
  .inr (0, [244, 245, 246, 247, 0, 0, 0, 0, 0]),
  .inl (0, 36, 0, 0),
  .inl (0, 6, 0, 0),
  .inl (0, 6, 0, 0),
  .inl (0, 6, 0, 0),
  .inr (0, [249, 250, 251, 252, 0, 0, 0, 0, 0]),
  .inl (0, 36, 0, 0),
  .inl (0, 6, 0, 0),
  .inl (0, 6, 0, 0),
  .inl (0, 6, 0, 0),
  .inr (0, [254, 255, 256, 257, 0, 0, 0, 0, 0]),
  .inl (0, 36, 0, 0),
  .inl (0, 6, 0, 0),
  .inl (0, 6, 0, 0),
  .inl (0, 6, 0, 0),
  .inr (0, [259, 260, 261, 262, 0, 0, 0, 0, 0]),
  .inl (0, 36, 0, 0),
  .inl (0, 6, 0, 0),
  .inl (0, 6, 0, 0),
  .inl (0, 6, 0, 0),
  .inr (6, [264, 265, 266, 267, 268, 269, 0]),
  .inl (0, 10, 0, 0),
  .inl (0, 10, 0, 0),
  .inl (0, 10, 0, 0),
  .inl (0, 10, 0, 0),
  .inl (2, 10, 0, 0),
  .inl (5, 4, 267, 1),
  .inl (0, 10, 0, 0),
  .inl (0, 10, 0, 0),
  .inl (0, 10, 0, 0),
  .inl (0, 10, 0, 0),
  .inr (10, [275, 276, 277, 278, 0, 0, 0, 0, 0, 0, 0]),
  .inl (4, 5, 276, 5),
  .inl (3, 2048, 0, 0),
  .inl (3, 2048, 0, 0),
  .inl (0, 2048, 0, 0),
  .inr (0, [280, 281, 282, 283, 0, 0, 0, 0, 0]),
  .inl (0, 36, 0, 0),
  .inl (0, 6, 0, 0),
  .inl (0, 6, 0, 0),
  .inl (0, 6, 0, 0),
  .inr (0, [285, 286, 287, 288, 0, 0, 0, 0, 0]),
  .inl (0, 36, 0, 0),
  .inl (0, 6, 0, 0),
  .inl (0, 6, 0, 0),
  .inl (0, 6, 0, 0),
  .inr (0, [290, 291, 292, 293, 0, 0, 0, 0, 0]),
  .inl (0, 36, 0, 0),
  .inl (0, 6, 0, 0),
  .inl (0, 6, 0, 0),
  .inl (0, 6, 0, 0),
  .inr (0, [295, 296, 297, 298, 0, 0, 0, 0, 0]),
  .inl (0, 36, 0, 0),
  .inl (0, 6, 0, 0),
  .inl (0, 6, 0, 0),
  .inl (0, 6, 0, 0),
  .inr (0, [300, 301, 302, 303, 0, 0, 0, 0, 0]),
  .inl (0, 36, 0, 0),
  .inl (0, 6, 0, 0),
  .inl (0, 6, 0, 0),
  .inl (0, 6, 0, 0),
  .inr (7, [305, 2, 0, 0]),
  .inl (4, 9, 304, 5),
  .inl (0, 0, 0, 0),
  .inr (0, [308, 309, 310, 311, 0, 0, 0, 0, 0]),
  .inl (0, 36, 0, 0),
  .inl (0, 6, 0, 0),
  .inl (0, 6, 0, 0),
  .inl (0, 6, 0, 0),
  .inr (0, [313, 314, 315, 316, 0, 0, 0, 0, 0]),
  .inl (0, 36, 0, 0),
  .inl (0, 6, 0, 0),
  .inl (0, 6, 0, 0),
  .inl (0, 6, 0, 0),
  .inr (0, [318, 319, 320, 321, 0, 0, 0, 0, 0]),
  .inl (0, 36, 0, 0),
  .inl (0, 6, 0, 0),
  .inl (0, 6, 0, 0),
  .inl (0, 6, 0, 0),
  .inr (0, [323, 324, 325, 326, 0, 0, 0, 0, 0]),
  .inl (0, 36, 0, 0),
  .inl (0, 6, 0, 0),
  .inl (0, 6, 0, 0),
  .inl (0, 6, 0, 0),
  .inr (0, [328, 329, 330, 331, 0, 0, 0, 0, 0]),
  .inl (0, 36, 0, 0),
  .inl (0, 6, 0, 0),
  .inl (0, 6, 0, 0),
  .inl (0, 6, 0, 0),
  .inr (0, [333, 334, 335, 336, 0, 0, 0, 0, 0]),
  .inl (0, 36, 0, 0),
  .inl (0, 6, 0, 0),
  .inl (0, 6, 0, 0),
  .inl (0, 6, 0, 0),
  .inr (0, [338, 339, 340, 341, 0, 0, 0, 0, 0]),
  .inl (0, 36, 0, 0),
  .inl (0, 6, 0, 0),
  .inl (0, 6, 0, 0),
  .inl (0, 6, 0, 0),
  .inr (0, [343, 344, 345, 346, 0, 0, 0, 0, 0]),
  .inl (0, 36, 0, 0),
  .inl (0, 6, 0, 0),
  .inl (0, 6, 0, 0),
  .inl (0, 6, 0, 0),
  .inr (0, [348, 349, 350, 351, 0, 0, 0, 0, 0]),
  .inl (0, 36, 0, 0),
  .inl (0, 6, 0, 0),
  .inl (0, 6, 0, 0),
  .inl (0, 6, 0, 0),
  .inl (0, 6, 0, 0),
  .inl (0, 6, 0, 0),
  .inr (12, [0, 355, 356, 357, 358, 2, 0, 0, 0, 0, 0, 0, 0, 0, 0, 1000000018, 1000000013, 0, 359, 360, 361, 362, 363, 364, 365, 366, 0, 0, 0, 0, 0, 0, 367, 368, 369, 0, 0, 370, 371, 372, 0, 1, 373, 374, 375, 0, 0, 0, 0, 0, 376, 0, 377, 378, 379, 380, 0]),
  .inl (1, 240, 0, 0),
  .inl (1, 960, 0, 0),
  .inl (0, 4, 0, 0),
  .inl (0, 128, 0, 0),
  .inl (0, 2, 0, 0),
  .inl (0, 2, 0, 0),
  .inl (0, 18, 0, 0),
  .inl (0, 18, 0, 0),
  .inl (0, 36, 0, 0),
  .inl (0, 36, 0, 0),
  .inl (0, 80, 0, 0),
  .inl (0, 5, 0, 0),
  .inl (0, 232, 0, 0),
  .inl (0, 51, 0, 0),
  .inl (0, 6, 0, 0),
  .inl (0, 36, 0, 0),
  .inl (0, 6, 0, 0),
  .inl (0, 9280, 0, 0),
  .inl (0, 6, 0, 0),
  .inl (0, 57600, 0, 0),
  .inl (0, 255, 0, 0),
  .inl (0, 50, 0, 0),
  .inl (0, 4, 0, 0),
  .inl (0, 459, 0, 0),
  .inl (0, 6, 0, 0),
  .inl (0, 232, 0, 0),
  .inl (3, 1, 0, 0)]
def sh (a : Nat) : Option SH := shL[a]?
def fK (S : XS) (a k : Nat) : Nat → Value
  | 0 => .int (S.1 a k)
  | 1 => .long (S.2.1 a k)
  | 2 => .ref (S.2.2 a)
  | n + 3 => .ref n
def fsL (S : XS) (a : Nat) : Nat → List Nat → List Value
  | _, [] => []
  | i, k :: ks => fK S a i k :: fsL S a (i + 1) ks
def mkA (S : XS) (a t n b s : Nat) : xa_C := match t with
  | 0 => .inl (0, n, .inl (S.1 a))
  | 1 => .inl (1, n, .inl (S.1 a))
  | 2 => .inl (2, n, .inl (S.1 a))
  | 3 => .inl (3, n, .inr (.inl (S.2.1 a)))
  | t + 4 => .inl (t + 4, n, .inr (.inr (.inr (.inr (fun i => if i < n then some (b + s * i) else none)))))
def mkC (S : XS) (a : Nat) : SH → xa_C
  | .inl (t, n, b, s) => mkA S a t n b s
  | .inr (ci, ks) => .inr (ci, fsL S a 0 ks)
def hp (S : XS) (c : Nat × Nat) : xa_H := (fun a => (sh a).map (mkC S a), c)
def wA (S : XS) (a : Nat) (f : Nat → Int32) : XS := (fun j => if j = a then f else S.1 j, S.2)
def wL (S : XS) (a : Nat) (f : Nat → Int64) : XS := (S.1, fun j => if j = a then f else S.2.1 j, S.2.2)
def wT (S : XS) (a x : Nat) : XS := (S.1, S.2.1, fun j => if j = a then x else S.2.2 j)
theorem wA_same {S : XS} {a : Nat} {f : Nat → Int32} : (wA S a f).1 a = f := if_pos rfl
theorem wA_ne {S : XS} {a j : Nat} {f : Nat → Int32} (h : j ≠ a) : (wA S a f).1 j = S.1 j := if_neg h
theorem wA_2 {S : XS} {a : Nat} {f : Nat → Int32} : (wA S a f).2 = S.2 := rfl
theorem wA_wA {S : XS} {a : Nat} {f g : Nat → Int32} : wA (wA S a f) a g = wA S a g := by
  unfold wA
  congr 1
  funext j
  dsimp only
  by_cases e : j = a
  · rw [if_pos e, if_pos e]
  · rw [if_neg e, if_neg e, if_neg e]
theorem wA_comm {S : XS} {a b : Nat} {f g : Nat → Int32} (hne : a ≠ b) : wA (wA S a f) b g = wA (wA S b g) a f := by
  unfold wA
  congr 1
  funext j
  dsimp only
  by_cases e : j = a
  · rw [if_pos e, if_pos e, if_neg (by omega)]
  · rw [if_neg e, if_neg e]
theorem wA_self {S : XS} {a : Nat} : wA S a (S.1 a) = S := by
  unfold wA
  congr 1
  funext j
  by_cases e : j = a
  · rw [if_pos e, e]
  · rw [if_neg e]
theorem wA_id {S : XS} {a : Nat} {f : Nat → Int32} (h : f = S.1 a) : wA S a f = S := by
  rw [h]
  exact wA_self
theorem wL_same {S : XS} {a : Nat} {f : Nat → Int64} : (wL S a f).2.1 a = f := if_pos rfl
theorem wL_ne {S : XS} {a j : Nat} {f : Nat → Int64} (h : j ≠ a) : (wL S a f).2.1 j = S.2.1 j := if_neg h
theorem wL_1 {S : XS} {a : Nat} {f : Nat → Int64} : (wL S a f).1 = S.1 := rfl
theorem wL_3 {S : XS} {a : Nat} {f : Nat → Int64} : (wL S a f).2.2 = S.2.2 := rfl
theorem wT_same {S : XS} {a x : Nat} : (wT S a x).2.2 a = x := if_pos rfl
theorem wT_ne {S : XS} {a j x : Nat} (h : j ≠ a) : (wT S a x).2.2 j = S.2.2 j := if_neg h
theorem wT_1 {S : XS} {a x : Nat} : (wT S a x).1 = S.1 := rfl
theorem wT_2 {S : XS} {a x : Nat} : (wT S a x).2.1 = S.2.1 := rfl
theorem upd_same {f : Nat → Int32} {k : Nat} {v : Int32} : upd f k v k = v := if_pos rfl
theorem upd_ne {f : Nat → Int32} {k j : Nat} {v : Int32} (h : j ≠ k) : upd f k v j = f j := if_neg h
theorem updL_same {f : Nat → Int64} {k : Nat} {v : Int64} : vp_updL f k v k = v := if_pos rfl
theorem updL_ne {f : Nat → Int64} {k j : Nat} {v : Int64} (h : j ≠ k) : vp_updL f k v j = f j := if_neg h
theorem fsL_get (S : XS) (a : Nat) : ∀ (ks : List Nat) (i k : Nat), (fsL S a i ks)[k]? = (ks[k]?).map (fK S a (i + k))
  | [], i, k => rfl
  | q :: ks, i, 0 => rfl
  | q :: ks, i, k + 1 => by
    show (fsL S a (i + 1) ks)[k]? = (ks[k]?).map (fK S a (i + (k + 1)))
    rw [fsL_get S a ks (i + 1) k, show i + 1 + k = i + (k + 1) by omega]
theorem fsL_len (S : XS) (a : Nat) : ∀ (ks : List Nat) (i : Nat), (fsL S a i ks).length = ks.length
  | [], i => rfl
  | q :: ks, i => by
    show (fsL S a (i + 1) ks).length + 1 = ks.length + 1
    rw [fsL_len S a ks (i + 1)]
theorem fsL_other {S S' : XS} {a : Nat} (h1 : S'.1 a = S.1 a) (h2 : S'.2.1 a = S.2.1 a) (h3 : S'.2.2 a = S.2.2 a) : ∀ (ks : List Nat) (i : Nat), fsL S' a i ks = fsL S a i ks
  | [], i => rfl
  | q :: ks, i => by
    show fK S' a i q :: fsL S' a (i + 1) ks = fK S a i q :: fsL S a (i + 1) ks
    rw [fsL_other h1 h2 h3 ks (i + 1)]
    congr 1
    match q with
    | 0 => show Value.int _ = Value.int _; rw [h1]
    | 1 => show Value.long _ = Value.long _; rw [h2]
    | 2 => show Value.ref _ = Value.ref _; rw [h3]
    | n + 3 => rfl
theorem mkC_other {S S' : XS} {a : Nat} (h1 : S'.1 a = S.1 a) (h2 : S'.2.1 a = S.2.1 a) (h3 : S'.2.2 a = S.2.2 a) : mkC S' a = mkC S a := by
  funext s
  match s with
  | .inr (ci, ks) => show Sum.inr (ci, fsL S' a 0 ks) = Sum.inr (ci, fsL S a 0 ks); rw [fsL_other h1 h2 h3]
  | .inl (t, n, b, st) =>
    show mkA S' a t n b st = mkA S a t n b st
    unfold mkA
    rw [h1, h2]
theorem hp_up {S S' : XS} {c : Nat × Nat} {a : Nat} {s : SH} {e : xa_C} (hs : sh a = some s) (he : mkC S' a s = e) (h1 : ∀ j, j ≠ a → S'.1 j = S.1 j) (h2 : ∀ j, j ≠ a → S'.2.1 j = S.2.1 j) (h3 : ∀ j, j ≠ a → S'.2.2 j = S.2.2 j) : xu (hp S c) a e = hp S' c := by
  unfold xu hp
  congr 1
  funext j
  dsimp only
  by_cases q : j = a
  · rw [if_pos q, q, hs]
    show some e = some (mkC S' a s)
    rw [he]
  · rw [if_neg q, mkC_other (h1 j q) (h2 j q) (h3 j q)]
theorem hp_at {S : XS} {c : Nat × Nat} {a : Nat} {s : SH} (hs : sh a = some s) : (hp S c).1 a = some (mkC S a s) := by
  show (sh a).map (mkC S a) = _
  rw [hs]
  rfl
section HP
variable {S : XS} {c : Nat × Nat} {a ci k t n b s : Nat} {ks cs : List Nat}
theorem ck_hp (hs : sh a = some (.inr (ci, ks))) (hm : ci ∈ cs) : ck cs (hp S c) a = some () := ck_in (hp_at hs) hm
theorem xg_hp {q : Nat} (hs : sh a = some (.inr (ci, ks))) (hm : ci ∈ cs) (hk : ks[k]? = some q) : xg cs k (hp S c) a = some (fK S a k q) := xg_in (hp_at hs) hm (by rw [fsL_get, hk, Nat.zero_add]; rfl)
theorem gI_hp (hs : sh a = some (.inr (ci, ks))) (hm : ci ∈ cs) (hk : ks[k]? = some 0) : gI cs k (hp S c) a = some (S.1 a k) := by
  unfold gI
  rw [xg_hp hs hm hk]
  rfl
theorem gL_hp (hs : sh a = some (.inr (ci, ks))) (hm : ci ∈ cs) (hk : ks[k]? = some 1) : gL cs k (hp S c) a = some (S.2.1 a k) := by
  unfold gL
  rw [xg_hp hs hm hk]
  rfl
theorem gT_hp (hs : sh a = some (.inr (ci, ks))) (hm : ci ∈ cs) (hk : ks[k]? = some 2) : gR cs k (hp S c) a = some (S.2.2 a) := by
  unfold gR
  rw [xg_hp hs hm hk]
  rfl
theorem gR_hp {r : Nat} (hs : sh a = some (.inr (ci, ks))) (hm : ci ∈ cs) (hk : ks[k]? = some (r + 3)) : gR cs k (hp S c) a = some r := by
  unfold gR
  rw [xg_hp hs hm hk]
  rfl
theorem lget_lt {q : Nat} (hk : ks[k]? = some q) : k < ks.length := (List.getElem?_eq_some_iff.mp hk).1
theorem xp_hp {v : Int32} (hs : sh a = some (.inr (ci, ks))) (hm : ci ∈ cs) (hk : ks[k]? = some 0) : xp cs k (hp S c) a (.int v) = some (hp (wA S a (upd (S.1 a) k v)) c) := by
  rw [xp_in (hp_at hs) hm (by rw [fsL_len]; exact lget_lt hk)]
  congr 1
  refine hp_up hs ?_ (fun j hj => wA_ne hj) (fun j _ => rfl) (fun j _ => rfl)
  show Sum.inr (ci, _) = Sum.inr (ci, _)
  congr 2
  refine List.ext_getElem? fun i => ?_
  rw [fsL_get, List.getElem?_set, fsL_get, Nat.zero_add, fsL_len]
  by_cases e : k = i
  · subst e
    rw [if_pos rfl, if_pos (lget_lt hk), hk]
    show some (Value.int _) = _
    rw [wA_same, upd_same]
  · rw [if_neg e]
    cases ks[i]? with
    | none => rfl
    | some q =>
      show some (fK _ a i q) = some (fK S a i q)
      match q with
      | 0 => show some (Value.int _) = some (Value.int _); rw [wA_same, upd_ne (fun z => e z.symm)]
      | 1 => rfl
      | 2 => rfl
      | n + 3 => rfl
theorem xpL_hp {v : Int64} (hs : sh a = some (.inr (ci, ks))) (hm : ci ∈ cs) (hk : ks[k]? = some 1) : xp cs k (hp S c) a (.long v) = some (hp (wL S a (vp_updL (S.2.1 a) k v)) c) := by
  rw [xp_in (hp_at hs) hm (by rw [fsL_len]; exact lget_lt hk)]
  congr 1
  refine hp_up hs ?_ (fun j _ => rfl) (fun j hj => wL_ne hj) (fun j _ => rfl)
  show Sum.inr (ci, _) = Sum.inr (ci, _)
  congr 2
  refine List.ext_getElem? fun i => ?_
  rw [fsL_get, List.getElem?_set, fsL_get, Nat.zero_add, fsL_len]
  by_cases e : k = i
  · subst e
    rw [if_pos rfl, if_pos (lget_lt hk), hk]
    show some (Value.long _) = _
    rw [wL_same, updL_same]
  · rw [if_neg e]
    cases ks[i]? with
    | none => rfl
    | some q =>
      show some (fK _ a i q) = some (fK S a i q)
      match q with
      | 0 => rfl
      | 1 => show some (Value.long _) = some (Value.long _); rw [wL_same, updL_ne (fun z => e z.symm)]
      | 2 => rfl
      | n + 3 => rfl
/-- the only field that is a changing reference -/
theorem xpT_hp {v : Nat} (hs : sh a = some (.inr (ci, ks))) (hm : ci ∈ cs) (hk : ks[k]? = some 2) (hu : ∀ i, i < ks.length → i ≠ k → ks[i]? ≠ some 2) : xp cs k (hp S c) a (.ref v) = some (hp (wT S a v) c) := by
  rw [xp_in (hp_at hs) hm (by rw [fsL_len]; exact lget_lt hk)]
  congr 1
  refine hp_up hs ?_ (fun j _ => rfl) (fun j _ => rfl) (fun j hj => wT_ne hj)
  show Sum.inr (ci, _) = Sum.inr (ci, _)
  congr 2
  refine List.ext_getElem? fun i => ?_
  rw [fsL_get, List.getElem?_set, fsL_get, Nat.zero_add, fsL_len]
  by_cases e : k = i
  · subst e
    rw [if_pos rfl, if_pos (lget_lt hk), hk]
    show some (Value.ref _) = _
    rw [wT_same]
  · rw [if_neg e]
    cases hq : ks[i]? with
    | none => rfl
    | some q =>
      show some (fK _ a i q) = some (fK S a i q)
      match q with
      | 0 => rfl
      | 1 => rfl
      | 2 => exact absurd hq (hu i (lget_lt hq) (fun z => e z.symm))
      | n + 3 => rfl
theorem aI_hp (hs : sh a = some (.inl (0, n, b, s))) (hk : k < n) (hn : n < 2 ^ 31) : aI (hp S c) a (nI k) = some (S.1 a k) := aI_in (hp_at hs) hk hn
theorem aB_hp (hs : sh a = some (.inl (1, n, b, s))) (hk : k < n) (hn : n < 2 ^ 31) : aB (hp S c) a (nI k) = some (S.1 a k) := by
  unfold aB
  rw [hp_at hs]
  show (if nI k < 0 ∨ n ≤ (nI k).toNatClampNeg then none else some (S.1 a (nI k).toNatClampNeg)) = _
  rw [if_neg (nI_inb hk hn), nI_clamp (by omega)]
theorem aZ_hp (hs : sh a = some (.inl (2, n, b, s))) (hk : k < n) (hn : n < 2 ^ 31) : aZ (hp S c) a (nI k) = some (S.1 a k) := by
  unfold aZ
  rw [hp_at hs]
  show (if nI k < 0 ∨ n ≤ (nI k).toNatClampNeg then none else some (S.1 a (nI k).toNatClampNeg)) = _
  rw [if_neg (nI_inb hk hn), nI_clamp (by omega)]
theorem aL_hp (hs : sh a = some (.inl (3, n, b, s))) (hk : k < n) (hn : n < 2 ^ 31) : aL (hp S c) a (nI k) = some (S.2.1 a k) := by
  unfold aL
  rw [hp_at hs]
  show (if nI k < 0 ∨ n ≤ (nI k).toNatClampNeg then none else some (S.2.1 a (nI k).toNatClampNeg)) = _
  rw [if_neg (nI_inb hk hn), nI_clamp (by omega)]
theorem aR_hp (hs : sh a = some (.inl (t, n, b, s))) (ht : 4 ≤ t) (hk : k < n) (hn : n < 2 ^ 31) : aR t (hp S c) a (nI k) = some (b + s * k) := by
  obtain ⟨u, rfl⟩ : ∃ u, t = u + 4 := ⟨t - 4, by omega⟩
  unfold aR
  rw [hp_at hs]
  show (if u + 4 ≠ u + 4 ∨ nI k < 0 ∨ n ≤ (nI k).toNatClampNeg then none else (if (nI k).toNatClampNeg < n then some (b + s * (nI k).toNatClampNeg) else none)) = _
  rw [if_neg (fun z => z.elim (fun q => q rfl) (nI_inb hk hn)), nI_clamp (by omega), if_pos hk]
theorem aN_hp (hs : sh a = some (.inl (t, n, b, s))) (ht : t < 6) : aN (hp S c) a = some (nI n) := by
  unfold aN
  rw [hp_at hs]
  match t with
  | 0 => rfl
  | 1 => rfl
  | 2 => rfl
  | 3 => rfl
  | 4 => rfl
  | 5 => rfl
  | u + 6 => omega
theorem pI_hp {v : Int32} (hs : sh a = some (.inl (0, n, b, s))) (hk : k < n) (hn : n < 2 ^ 31) : pI (hp S c) a (nI k) v = some (hp (wA S a (upd (S.1 a) k v)) c) := by
  rw [pI_in (hp_at hs) hk hn]
  congr 1
  refine hp_up hs ?_ (fun j hj => wA_ne hj) (fun j _ => rfl) (fun j _ => rfl)
  show Sum.inl (0, n, Sum.inl _) = _
  rw [wA_same]
theorem pB_hp {v : Int32} (hs : sh a = some (.inl (1, n, b, s))) (hk : k < n) (hn : n < 2 ^ 31) : pB (hp S c) a (nI k) v = some (hp (wA S a (upd (S.1 a) k (vp_nar .byte v))) c) := by
  unfold pB
  rw [hp_at hs]
  show (if nI k < 0 ∨ n ≤ (nI k).toNatClampNeg then none else some (xu (hp S c) a (.inl (1, n, .inl (upd (S.1 a) (nI k).toNatClampNeg (vp_nar .byte v)))))) = _
  rw [if_neg (nI_inb hk hn), nI_clamp (by omega)]
  congr 1
  refine hp_up hs ?_ (fun j hj => wA_ne hj) (fun j _ => rfl) (fun j _ => rfl)
  show Sum.inl (1, n, Sum.inl _) = _
  rw [wA_same]
theorem pZ_hp {v : Int32} (hs : sh a = some (.inl (2, n, b, s))) (hk : k < n) (hn : n < 2 ^ 31) : pZ (hp S c) a (nI k) v = some (hp (wA S a (upd (S.1 a) k (vp_nar .boolean v))) c) := by
  unfold pZ
  rw [hp_at hs]
  show (if nI k < 0 ∨ n ≤ (nI k).toNatClampNeg then none else some (xu (hp S c) a (.inl (2, n, .inl (upd (S.1 a) (nI k).toNatClampNeg (vp_nar .boolean v)))))) = _
  rw [if_neg (nI_inb hk hn), nI_clamp (by omega)]
  congr 1
  refine hp_up hs ?_ (fun j hj => wA_ne hj) (fun j _ => rfl) (fun j _ => rfl)
  show Sum.inl (2, n, Sum.inl _) = _
  rw [wA_same]
theorem pL_hp {v : Int64} (hs : sh a = some (.inl (3, n, b, s))) (hk : k < n) (hn : n < 2 ^ 31) : pL (hp S c) a (nI k) v = some (hp (wL S a (vp_updL (S.2.1 a) k v)) c) := by
  unfold pL
  rw [hp_at hs]
  show (if nI k < 0 ∨ n ≤ (nI k).toNatClampNeg then none else some (xu (hp S c) a (.inl (3, n, .inr (.inl (vp_updL (S.2.1 a) (nI k).toNatClampNeg v)))))) = _
  rw [if_neg (nI_inb hk hn), nI_clamp (by omega)]
  congr 1
  refine hp_up hs ?_ (fun j _ => rfl) (fun j hj => wL_ne hj) (fun j _ => rfl)
  show Sum.inl (3, n, Sum.inr (Sum.inl _)) = _
  rw [wL_same]
theorem cpI_hp {a0 n0 b0 s0 p q m : Nat} (hs0 : sh a0 = some (.inl (0, n0, b0, s0))) (hs : sh a = some (.inl (0, n, b, s))) (h0 : p + m ≤ n0) (h1 : q + m ≤ n) (hn0 : n0 < 2 ^ 31) (hn : n < 2 ^ 31) : cpI (hp S c) a0 (nI p) a (nI q) (nI m) = some (hp (wA S a (va_cpy (S.1 a0) (S.1 a) p q m)) c) := by
  unfold cpI
  rw [hp_at hs0, hp_at hs]
  show (if nI p < 0 ∨ nI q < 0 ∨ nI m < 0 ∨ n0 < (nI p).toNatClampNeg + (nI m).toNatClampNeg ∨ n < (nI q).toNatClampNeg + (nI m).toNatClampNeg then none else some (xu (hp S c) a (.inl (0, n, .inl (va_cpy (S.1 a0) (S.1 a) (nI p).toNatClampNeg (nI q).toNatClampNeg (nI m).toNatClampNeg))))) = _
  rw [nI_clamp (by omega), nI_clamp (by omega), nI_clamp (by omega), if_neg (fun z => z.elim (nI_pos (by omega)) fun z => z.elim (nI_pos (by omega)) fun z => z.elim (nI_pos (by omega)) fun z => by omega)]
  congr 1
  refine hp_up hs ?_ (fun j hj => wA_ne hj) (fun j _ => rfl) (fun j _ => rfl)
  show Sum.inl (0, n, Sum.inl _) = _
  rw [wA_same]
end HP
def isB (b : Nat) : Prop := sh b = some (.inr (0, [b + 1 + 3, b + 2 + 3, b + 3 + 3, b + 4 + 3, 0, 0, 0, 0, 0])) ∧ sh (b + 1) = some (.inl (0, 36, 0, 0)) ∧ sh (b + 2) = some (.inl (0, 6, 0, 0)) ∧ sh (b + 3) = some (.inl (0, 6, 0, 0)) ∧ sh (b + 4) = some (.inl (0, 6, 0, 0))
def isBd (b : Nat) : Bool := decide (sh b = some (.inr (0, [b + 1 + 3, b + 2 + 3, b + 3 + 3, b + 4 + 3, 0, 0, 0, 0, 0]))) && decide (sh (b + 1) = some (.inl (0, 36, 0, 0))) && decide (sh (b + 2) = some (.inl (0, 6, 0, 0))) && decide (sh (b + 3) = some (.inl (0, 6, 0, 0))) && decide (sh (b + 4) = some (.inl (0, 6, 0, 0)))
theorem isBd_of (b : Nat) (h : isBd b = true) : isB b := by
  unfold isBd at h
  rw [Bool.and_eq_true, Bool.and_eq_true, Bool.and_eq_true, Bool.and_eq_true] at h
  exact ⟨of_decide_eq_true h.1.1.1.1, of_decide_eq_true h.1.1.1.2, of_decide_eq_true h.1.1.2, of_decide_eq_true h.1.2, of_decide_eq_true h.2⟩
section BDS
variable {S : XS} {c : Nat × Nat} {b k : Nat} {v : Int32}
theorem isB.ck (B : isB b) : ck [0] (hp S c) b = some () := ck_hp B.1 (by decide)
theorem isB.g0 (B : isB b) : gR [0] 0 (hp S c) b = some (b + 1) := gR_hp B.1 (by decide) rfl
theorem isB.g1 (B : isB b) : gR [0] 1 (hp S c) b = some (b + 2) := gR_hp B.1 (by decide) rfl
theorem isB.g2 (B : isB b) : gR [0] 2 (hp S c) b = some (b + 3) := gR_hp B.1 (by decide) rfl
theorem isB.g3 (B : isB b) : gR [0] 3 (hp S c) b = some (b + 4) := gR_hp B.1 (by decide) rfl
theorem isB.g4 (B : isB b) : gI [0] 4 (hp S c) b = some (S.1 b 4) := gI_hp B.1 (by decide) rfl
theorem isB.g5 (B : isB b) : gI [0] 5 (hp S c) b = some (S.1 b 5) := gI_hp B.1 (by decide) rfl
theorem isB.g6 (B : isB b) : gI [0] 6 (hp S c) b = some (S.1 b 6) := gI_hp B.1 (by decide) rfl
theorem isB.g7 (B : isB b) : gI [0] 7 (hp S c) b = some (S.1 b 7) := gI_hp B.1 (by decide) rfl
theorem isB.g8 (B : isB b) : gI [0] 8 (hp S c) b = some (S.1 b 8) := gI_hp B.1 (by decide) rfl
theorem isB.p4 (B : isB b) : xp [0] 4 (hp S c) b (.int v) = some (hp (wA S b (upd (S.1 b) 4 v)) c) := xp_hp B.1 (by decide) rfl
theorem isB.p5 (B : isB b) : xp [0] 5 (hp S c) b (.int v) = some (hp (wA S b (upd (S.1 b) 5 v)) c) := xp_hp B.1 (by decide) rfl
theorem isB.p6 (B : isB b) : xp [0] 6 (hp S c) b (.int v) = some (hp (wA S b (upd (S.1 b) 6 v)) c) := xp_hp B.1 (by decide) rfl
theorem isB.p7 (B : isB b) : xp [0] 7 (hp S c) b (.int v) = some (hp (wA S b (upd (S.1 b) 7 v)) c) := xp_hp B.1 (by decide) rfl
theorem isB.p8 (B : isB b) : xp [0] 8 (hp S c) b (.int v) = some (hp (wA S b (upd (S.1 b) 8 v)) c) := xp_hp B.1 (by decide) rfl
theorem isB.a1 (B : isB b) (hk : k < 36) : aI (hp S c) (b + 1) (nI k) = some (S.1 (b + 1) k) := aI_hp B.2.1 hk (by decide)
theorem isB.a2 (B : isB b) (hk : k < 6) : aI (hp S c) (b + 2) (nI k) = some (S.1 (b + 2) k) := aI_hp B.2.2.1 hk (by decide)
theorem isB.a3 (B : isB b) (hk : k < 6) : aI (hp S c) (b + 3) (nI k) = some (S.1 (b + 3) k) := aI_hp B.2.2.2.1 hk (by decide)
theorem isB.a4 (B : isB b) (hk : k < 6) : aI (hp S c) (b + 4) (nI k) = some (S.1 (b + 4) k) := aI_hp B.2.2.2.2 hk (by decide)
theorem isB.n1 (B : isB b) : aN (hp S c) (b + 1) = some (nI 36) := aN_hp B.2.1 (by decide)
theorem isB.q1 (B : isB b) (hk : k < 36) : pI (hp S c) (b + 1) (nI k) v = some (hp (wA S (b + 1) (upd (S.1 (b + 1)) k v)) c) := pI_hp B.2.1 hk (by decide)
theorem isB.q2 (B : isB b) (hk : k < 6) : pI (hp S c) (b + 2) (nI k) v = some (hp (wA S (b + 2) (upd (S.1 (b + 2)) k v)) c) := pI_hp B.2.2.1 hk (by decide)
theorem isB.q3 (B : isB b) (hk : k < 6) : pI (hp S c) (b + 3) (nI k) v = some (hp (wA S (b + 3) (upd (S.1 (b + 3)) k v)) c) := pI_hp B.2.2.2.1 hk (by decide)
theorem isB.q4 (B : isB b) (hk : k < 6) : pI (hp S c) (b + 4) (nI k) v = some (hp (wA S (b + 4) (upd (S.1 (b + 4)) k v)) c) := pI_hp B.2.2.2.2 hk (by decide)
end BDS

theorem s0 : sh 0 = some (.inr (11, [4, 5, 13, 16, 19, 26, 33, 38, 43, 48, 52, 263, 274, 304, 352, 353, 0, 0, 0])) := by decide +kernel
theorem k0 {S : XS} {c : Nat × Nat} : ck [11] (hp S c) 0 = some () := ck_hp s0 (by decide)
theorem g0_0 {S : XS} {c : Nat × Nat} : gR [11] 0 (hp S c) 0 = some 1 := gR_hp s0 (by decide) rfl
theorem g0_1 {S : XS} {c : Nat × Nat} : gR [11] 1 (hp S c) 0 = some 2 := gR_hp s0 (by decide) rfl
theorem g0_2 {S : XS} {c : Nat × Nat} : gR [11] 2 (hp S c) 0 = some 10 := gR_hp s0 (by decide) rfl
theorem g0_3 {S : XS} {c : Nat × Nat} : gR [11] 3 (hp S c) 0 = some 13 := gR_hp s0 (by decide) rfl
theorem g0_4 {S : XS} {c : Nat × Nat} : gR [11] 4 (hp S c) 0 = some 16 := gR_hp s0 (by decide) rfl
theorem g0_5 {S : XS} {c : Nat × Nat} : gR [11] 5 (hp S c) 0 = some 23 := gR_hp s0 (by decide) rfl
theorem g0_6 {S : XS} {c : Nat × Nat} : gR [11] 6 (hp S c) 0 = some 30 := gR_hp s0 (by decide) rfl
theorem g0_7 {S : XS} {c : Nat × Nat} : gR [11] 7 (hp S c) 0 = some 35 := gR_hp s0 (by decide) rfl
theorem g0_8 {S : XS} {c : Nat × Nat} : gR [11] 8 (hp S c) 0 = some 40 := gR_hp s0 (by decide) rfl
theorem g0_9 {S : XS} {c : Nat × Nat} : gR [11] 9 (hp S c) 0 = some 45 := gR_hp s0 (by decide) rfl
theorem g0_10 {S : XS} {c : Nat × Nat} : gR [11] 10 (hp S c) 0 = some 49 := gR_hp s0 (by decide) rfl
theorem g0_11 {S : XS} {c : Nat × Nat} : gR [11] 11 (hp S c) 0 = some 260 := gR_hp s0 (by decide) rfl
theorem g0_12 {S : XS} {c : Nat × Nat} : gR [11] 12 (hp S c) 0 = some 271 := gR_hp s0 (by decide) rfl
theorem g0_13 {S : XS} {c : Nat × Nat} : gR [11] 13 (hp S c) 0 = some 301 := gR_hp s0 (by decide) rfl
theorem g0_14 {S : XS} {c : Nat × Nat} : gR [11] 14 (hp S c) 0 = some 349 := gR_hp s0 (by decide) rfl
theorem g0_15 {S : XS} {c : Nat × Nat} : gR [11] 15 (hp S c) 0 = some 350 := gR_hp s0 (by decide) rfl
theorem g0_16 {S : XS} {c : Nat × Nat} : gI [11] 16 (hp S c) 0 = some (S.1 0 16) := gI_hp s0 (by decide) rfl
theorem p0_16 {S : XS} {c : Nat × Nat} {v : Int32} : xp [11] 16 (hp S c) 0 (.int v) = some (hp (wA S 0 (upd (S.1 0) 16 v)) c) := xp_hp s0 (by decide) rfl
theorem g0_17 {S : XS} {c : Nat × Nat} : gI [11] 17 (hp S c) 0 = some (S.1 0 17) := gI_hp s0 (by decide) rfl
theorem p0_17 {S : XS} {c : Nat × Nat} {v : Int32} : xp [11] 17 (hp S c) 0 (.int v) = some (hp (wA S 0 (upd (S.1 0) 17 v)) c) := xp_hp s0 (by decide) rfl
theorem g0_18 {S : XS} {c : Nat × Nat} : gI [11] 18 (hp S c) 0 = some (S.1 0 18) := gI_hp s0 (by decide) rfl
theorem p0_18 {S : XS} {c : Nat × Nat} {v : Int32} : xp [11] 18 (hp S c) 0 (.int v) = some (hp (wA S 0 (upd (S.1 0) 18 v)) c) := xp_hp s0 (by decide) rfl
theorem s2 : sh 2 = some (.inr (9, [2, 0, 0, 0, 7, 12, 0, 0, 0, 0])) := by decide +kernel
theorem k2 {S : XS} {c : Nat × Nat} : ck [9] (hp S c) 2 = some () := ck_hp s2 (by decide)
theorem g2_0 {S : XS} {c : Nat × Nat} : gR [9] 0 (hp S c) 2 = some (S.2.2 2) := gT_hp s2 (by decide) rfl
theorem p2_0 {S : XS} {c : Nat × Nat} {v : Nat} : xp [9] 0 (hp S c) 2 (.ref v) = some (hp (wT S 2 v) c) := xpT_hp s2 (by decide) rfl (by decide)
theorem g2_1 {S : XS} {c : Nat × Nat} : gI [9] 1 (hp S c) 2 = some (S.1 2 1) := gI_hp s2 (by decide) rfl
theorem p2_1 {S : XS} {c : Nat × Nat} {v : Int32} : xp [9] 1 (hp S c) 2 (.int v) = some (hp (wA S 2 (upd (S.1 2) 1 v)) c) := xp_hp s2 (by decide) rfl
theorem g2_2 {S : XS} {c : Nat × Nat} : gI [9] 2 (hp S c) 2 = some (S.1 2 2) := gI_hp s2 (by decide) rfl
theorem p2_2 {S : XS} {c : Nat × Nat} {v : Int32} : xp [9] 2 (hp S c) 2 (.int v) = some (hp (wA S 2 (upd (S.1 2) 2 v)) c) := xp_hp s2 (by decide) rfl
theorem g2_3 {S : XS} {c : Nat × Nat} : gI [9] 3 (hp S c) 2 = some (S.1 2 3) := gI_hp s2 (by decide) rfl
theorem p2_3 {S : XS} {c : Nat × Nat} {v : Int32} : xp [9] 3 (hp S c) 2 (.int v) = some (hp (wA S 2 (upd (S.1 2) 3 v)) c) := xp_hp s2 (by decide) rfl
theorem g2_4 {S : XS} {c : Nat × Nat} : gR [9] 4 (hp S c) 2 = some 4 := gR_hp s2 (by decide) rfl
theorem g2_5 {S : XS} {c : Nat × Nat} : gR [9] 5 (hp S c) 2 = some 9 := gR_hp s2 (by decide) rfl
theorem g2_6 {S : XS} {c : Nat × Nat} : gI [9] 6 (hp S c) 2 = some (S.1 2 6) := gI_hp s2 (by decide) rfl
theorem p2_6 {S : XS} {c : Nat × Nat} {v : Int32} : xp [9] 6 (hp S c) 2 (.int v) = some (hp (wA S 2 (upd (S.1 2) 6 v)) c) := xp_hp s2 (by decide) rfl
theorem g2_7 {S : XS} {c : Nat × Nat} : gI [9] 7 (hp S c) 2 = some (S.1 2 7) := gI_hp s2 (by decide) rfl
theorem p2_7 {S : XS} {c : Nat × Nat} {v : Int32} : xp [9] 7 (hp S c) 2 (.int v) = some (hp (wA S 2 (upd (S.1 2) 7 v)) c) := xp_hp s2 (by decide) rfl
theorem g2_8 {S : XS} {c : Nat × Nat} : gI [9] 8 (hp S c) 2 = some (S.1 2 8) := gI_hp s2 (by decide) rfl
theorem p2_8 {S : XS} {c : Nat × Nat} {v : Int32} : xp [9] 8 (hp S c) 2 (.int v) = some (hp (wA S 2 (upd (S.1 2) 8 v)) c) := xp_hp s2 (by decide) rfl
theorem g2_9 {S : XS} {c : Nat × Nat} : gI [9] 9 (hp S c) 2 = some (S.1 2 9) := gI_hp s2 (by decide) rfl
theorem p2_9 {S : XS} {c : Nat × Nat} {v : Int32} : xp [9] 9 (hp S c) 2 (.int v) = some (hp (wA S 2 (upd (S.1 2) 9 v)) c) := xp_hp s2 (by decide) rfl
theorem k2r {S : XS} {c : Nat × Nat} : ck [2, 8, 9] (hp S c) 2 = some () := ck_hp s2 (by decide)
theorem g2_0r {S : XS} {c : Nat × Nat} : gR [2, 8, 9] 0 (hp S c) 2 = some (S.2.2 2) := gT_hp s2 (by decide) rfl
theorem p2_0r {S : XS} {c : Nat × Nat} {v : Nat} : xp [2, 8, 9] 0 (hp S c) 2 (.ref v) = some (hp (wT S 2 v) c) := xpT_hp s2 (by decide) rfl (by decide)
theorem g2_1r {S : XS} {c : Nat × Nat} : gI [2, 8, 9] 1 (hp S c) 2 = some (S.1 2 1) := gI_hp s2 (by decide) rfl
theorem p2_1r {S : XS} {c : Nat × Nat} {v : Int32} : xp [2, 8, 9] 1 (hp S c) 2 (.int v) = some (hp (wA S 2 (upd (S.1 2) 1 v)) c) := xp_hp s2 (by decide) rfl
theorem g2_2r {S : XS} {c : Nat × Nat} : gI [2, 8, 9] 2 (hp S c) 2 = some (S.1 2 2) := gI_hp s2 (by decide) rfl
theorem p2_2r {S : XS} {c : Nat × Nat} {v : Int32} : xp [2, 8, 9] 2 (hp S c) 2 (.int v) = some (hp (wA S 2 (upd (S.1 2) 2 v)) c) := xp_hp s2 (by decide) rfl
theorem g2_3r {S : XS} {c : Nat × Nat} : gI [2, 8, 9] 3 (hp S c) 2 = some (S.1 2 3) := gI_hp s2 (by decide) rfl
theorem p2_3r {S : XS} {c : Nat × Nat} {v : Int32} : xp [2, 8, 9] 3 (hp S c) 2 (.int v) = some (hp (wA S 2 (upd (S.1 2) 3 v)) c) := xp_hp s2 (by decide) rfl
theorem s10 : sh 10 = some (.inr (2, [2, 0, 0, 0, 15, 0, 0])) := by decide +kernel
theorem k10 {S : XS} {c : Nat × Nat} : ck [2] (hp S c) 10 = some () := ck_hp s10 (by decide)
theorem g10_0 {S : XS} {c : Nat × Nat} : gR [2] 0 (hp S c) 10 = some (S.2.2 10) := gT_hp s10 (by decide) rfl
theorem p10_0 {S : XS} {c : Nat × Nat} {v : Nat} : xp [2] 0 (hp S c) 10 (.ref v) = some (hp (wT S 10 v) c) := xpT_hp s10 (by decide) rfl (by decide)
theorem g10_1 {S : XS} {c : Nat × Nat} : gI [2] 1 (hp S c) 10 = some (S.1 10 1) := gI_hp s10 (by decide) rfl
theorem p10_1 {S : XS} {c : Nat × Nat} {v : Int32} : xp [2] 1 (hp S c) 10 (.int v) = some (hp (wA S 10 (upd (S.1 10) 1 v)) c) := xp_hp s10 (by decide) rfl
theorem g10_2 {S : XS} {c : Nat × Nat} : gI [2] 2 (hp S c) 10 = some (S.1 10 2) := gI_hp s10 (by decide) rfl
theorem p10_2 {S : XS} {c : Nat × Nat} {v : Int32} : xp [2] 2 (hp S c) 10 (.int v) = some (hp (wA S 10 (upd (S.1 10) 2 v)) c) := xp_hp s10 (by decide) rfl
theorem g10_3 {S : XS} {c : Nat × Nat} : gI [2] 3 (hp S c) 10 = some (S.1 10 3) := gI_hp s10 (by decide) rfl
theorem p10_3 {S : XS} {c : Nat × Nat} {v : Int32} : xp [2] 3 (hp S c) 10 (.int v) = some (hp (wA S 10 (upd (S.1 10) 3 v)) c) := xp_hp s10 (by decide) rfl
theorem g10_4 {S : XS} {c : Nat × Nat} : gR [2] 4 (hp S c) 10 = some 12 := gR_hp s10 (by decide) rfl
theorem g10_5 {S : XS} {c : Nat × Nat} : gI [2] 5 (hp S c) 10 = some (S.1 10 5) := gI_hp s10 (by decide) rfl
theorem p10_5 {S : XS} {c : Nat × Nat} {v : Int32} : xp [2] 5 (hp S c) 10 (.int v) = some (hp (wA S 10 (upd (S.1 10) 5 v)) c) := xp_hp s10 (by decide) rfl
theorem g10_6 {S : XS} {c : Nat × Nat} : gI [2] 6 (hp S c) 10 = some (S.1 10 6) := gI_hp s10 (by decide) rfl
theorem p10_6 {S : XS} {c : Nat × Nat} {v : Int32} : xp [2] 6 (hp S c) 10 (.int v) = some (hp (wA S 10 (upd (S.1 10) 6 v)) c) := xp_hp s10 (by decide) rfl
theorem k10r {S : XS} {c : Nat × Nat} : ck [2, 8, 9] (hp S c) 10 = some () := ck_hp s10 (by decide)
theorem g10_0r {S : XS} {c : Nat × Nat} : gR [2, 8, 9] 0 (hp S c) 10 = some (S.2.2 10) := gT_hp s10 (by decide) rfl
theorem p10_0r {S : XS} {c : Nat × Nat} {v : Nat} : xp [2, 8, 9] 0 (hp S c) 10 (.ref v) = some (hp (wT S 10 v) c) := xpT_hp s10 (by decide) rfl (by decide)
theorem g10_1r {S : XS} {c : Nat × Nat} : gI [2, 8, 9] 1 (hp S c) 10 = some (S.1 10 1) := gI_hp s10 (by decide) rfl
theorem p10_1r {S : XS} {c : Nat × Nat} {v : Int32} : xp [2, 8, 9] 1 (hp S c) 10 (.int v) = some (hp (wA S 10 (upd (S.1 10) 1 v)) c) := xp_hp s10 (by decide) rfl
theorem g10_2r {S : XS} {c : Nat × Nat} : gI [2, 8, 9] 2 (hp S c) 10 = some (S.1 10 2) := gI_hp s10 (by decide) rfl
theorem p10_2r {S : XS} {c : Nat × Nat} {v : Int32} : xp [2, 8, 9] 2 (hp S c) 10 (.int v) = some (hp (wA S 10 (upd (S.1 10) 2 v)) c) := xp_hp s10 (by decide) rfl
theorem g10_3r {S : XS} {c : Nat × Nat} : gI [2, 8, 9] 3 (hp S c) 10 = some (S.1 10 3) := gI_hp s10 (by decide) rfl
theorem p10_3r {S : XS} {c : Nat × Nat} {v : Int32} : xp [2, 8, 9] 3 (hp S c) 10 (.int v) = some (hp (wA S 10 (upd (S.1 10) 3 v)) c) := xp_hp s10 (by decide) rfl
theorem s13 : sh 13 = some (.inr (8, [2, 0, 0, 0, 18, 0])) := by decide +kernel
theorem k13 {S : XS} {c : Nat × Nat} : ck [8] (hp S c) 13 = some () := ck_hp s13 (by decide)
theorem g13_0 {S : XS} {c : Nat × Nat} : gR [8] 0 (hp S c) 13 = some (S.2.2 13) := gT_hp s13 (by decide) rfl
theorem p13_0 {S : XS} {c : Nat × Nat} {v : Nat} : xp [8] 0 (hp S c) 13 (.ref v) = some (hp (wT S 13 v) c) := xpT_hp s13 (by decide) rfl (by decide)
theorem g13_1 {S : XS} {c : Nat × Nat} : gI [8] 1 (hp S c) 13 = some (S.1 13 1) := gI_hp s13 (by decide) rfl
theorem p13_1 {S : XS} {c : Nat × Nat} {v : Int32} : xp [8] 1 (hp S c) 13 (.int v) = some (hp (wA S 13 (upd (S.1 13) 1 v)) c) := xp_hp s13 (by decide) rfl
theorem g13_2 {S : XS} {c : Nat × Nat} : gI [8] 2 (hp S c) 13 = some (S.1 13 2) := gI_hp s13 (by decide) rfl
theorem p13_2 {S : XS} {c : Nat × Nat} {v : Int32} : xp [8] 2 (hp S c) 13 (.int v) = some (hp (wA S 13 (upd (S.1 13) 2 v)) c) := xp_hp s13 (by decide) rfl
theorem g13_3 {S : XS} {c : Nat × Nat} : gI [8] 3 (hp S c) 13 = some (S.1 13 3) := gI_hp s13 (by decide) rfl
theorem p13_3 {S : XS} {c : Nat × Nat} {v : Int32} : xp [8] 3 (hp S c) 13 (.int v) = some (hp (wA S 13 (upd (S.1 13) 3 v)) c) := xp_hp s13 (by decide) rfl
theorem g13_4 {S : XS} {c : Nat × Nat} : gR [8] 4 (hp S c) 13 = some 15 := gR_hp s13 (by decide) rfl
theorem g13_5 {S : XS} {c : Nat × Nat} : gI [8] 5 (hp S c) 13 = some (S.1 13 5) := gI_hp s13 (by decide) rfl
theorem p13_5 {S : XS} {c : Nat × Nat} {v : Int32} : xp [8] 5 (hp S c) 13 (.int v) = some (hp (wA S 13 (upd (S.1 13) 5 v)) c) := xp_hp s13 (by decide) rfl
theorem k13r {S : XS} {c : Nat × Nat} : ck [2, 8, 9] (hp S c) 13 = some () := ck_hp s13 (by decide)
theorem g13_0r {S : XS} {c : Nat × Nat} : gR [2, 8, 9] 0 (hp S c) 13 = some (S.2.2 13) := gT_hp s13 (by decide) rfl
theorem p13_0r {S : XS} {c : Nat × Nat} {v : Nat} : xp [2, 8, 9] 0 (hp S c) 13 (.ref v) = some (hp (wT S 13 v) c) := xpT_hp s13 (by decide) rfl (by decide)
theorem g13_1r {S : XS} {c : Nat × Nat} : gI [2, 8, 9] 1 (hp S c) 13 = some (S.1 13 1) := gI_hp s13 (by decide) rfl
theorem p13_1r {S : XS} {c : Nat × Nat} {v : Int32} : xp [2, 8, 9] 1 (hp S c) 13 (.int v) = some (hp (wA S 13 (upd (S.1 13) 1 v)) c) := xp_hp s13 (by decide) rfl
theorem g13_2r {S : XS} {c : Nat × Nat} : gI [2, 8, 9] 2 (hp S c) 13 = some (S.1 13 2) := gI_hp s13 (by decide) rfl
theorem p13_2r {S : XS} {c : Nat × Nat} {v : Int32} : xp [2, 8, 9] 2 (hp S c) 13 (.int v) = some (hp (wA S 13 (upd (S.1 13) 2 v)) c) := xp_hp s13 (by decide) rfl
theorem g13_3r {S : XS} {c : Nat × Nat} : gI [2, 8, 9] 3 (hp S c) 13 = some (S.1 13 3) := gI_hp s13 (by decide) rfl
theorem p13_3r {S : XS} {c : Nat × Nat} {v : Int32} : xp [2, 8, 9] 3 (hp S c) 13 (.int v) = some (hp (wA S 13 (upd (S.1 13) 3 v)) c) := xp_hp s13 (by decide) rfl
theorem s16 : sh 16 = some (.inr (5, [21, 20, 0, 0])) := by decide +kernel
theorem k16 {S : XS} {c : Nat × Nat} : ck [5] (hp S c) 16 = some () := ck_hp s16 (by decide)
theorem g16_0 {S : XS} {c : Nat × Nat} : gR [5] 0 (hp S c) 16 = some 18 := gR_hp s16 (by decide) rfl
theorem g16_1 {S : XS} {c : Nat × Nat} : gR [5] 1 (hp S c) 16 = some 17 := gR_hp s16 (by decide) rfl
theorem g16_2 {S : XS} {c : Nat × Nat} : gI [5] 2 (hp S c) 16 = some (S.1 16 2) := gI_hp s16 (by decide) rfl
theorem p16_2 {S : XS} {c : Nat × Nat} {v : Int32} : xp [5] 2 (hp S c) 16 (.int v) = some (hp (wA S 16 (upd (S.1 16) 2 v)) c) := xp_hp s16 (by decide) rfl
theorem g16_3 {S : XS} {c : Nat × Nat} : gI [5] 3 (hp S c) 16 = some (S.1 16 3) := gI_hp s16 (by decide) rfl
theorem p16_3 {S : XS} {c : Nat × Nat} {v : Int32} : xp [5] 3 (hp S c) 16 (.int v) = some (hp (wA S 16 (upd (S.1 16) 3 v)) c) := xp_hp s16 (by decide) rfl
theorem s23 : sh 23 = some (.inr (5, [28, 27, 0, 0])) := by decide +kernel
theorem k23 {S : XS} {c : Nat × Nat} : ck [5] (hp S c) 23 = some () := ck_hp s23 (by decide)
theorem g23_0 {S : XS} {c : Nat × Nat} : gR [5] 0 (hp S c) 23 = some 25 := gR_hp s23 (by decide) rfl
theorem g23_1 {S : XS} {c : Nat × Nat} : gR [5] 1 (hp S c) 23 = some 24 := gR_hp s23 (by decide) rfl
theorem g23_2 {S : XS} {c : Nat × Nat} : gI [5] 2 (hp S c) 23 = some (S.1 23 2) := gI_hp s23 (by decide) rfl
theorem p23_2 {S : XS} {c : Nat × Nat} {v : Int32} : xp [5] 2 (hp S c) 23 (.int v) = some (hp (wA S 23 (upd (S.1 23) 2 v)) c) := xp_hp s23 (by decide) rfl
theorem g23_3 {S : XS} {c : Nat × Nat} : gI [5] 3 (hp S c) 23 = some (S.1 23 3) := gI_hp s23 (by decide) rfl
theorem p23_3 {S : XS} {c : Nat × Nat} {v : Int32} : xp [5] 3 (hp S c) 23 (.int v) = some (hp (wA S 23 (upd (S.1 23) 3 v)) c) := xp_hp s23 (by decide) rfl
theorem s45 : sh 45 = some (.inr (1, [49, 50, 51])) := by decide +kernel
theorem k45 {S : XS} {c : Nat × Nat} : ck [1] (hp S c) 45 = some () := ck_hp s45 (by decide)
theorem g45_0 {S : XS} {c : Nat × Nat} : gR [1] 0 (hp S c) 45 = some 46 := gR_hp s45 (by decide) rfl
theorem g45_1 {S : XS} {c : Nat × Nat} : gR [1] 1 (hp S c) 45 = some 47 := gR_hp s45 (by decide) rfl
theorem g45_2 {S : XS} {c : Nat × Nat} : gR [1] 2 (hp S c) 45 = some 48 := gR_hp s45 (by decide) rfl
theorem s49 : sh 49 = some (.inr (3, [53, 54, 59, 0, 0, 0])) := by decide +kernel
theorem k49 {S : XS} {c : Nat × Nat} : ck [3] (hp S c) 49 = some () := ck_hp s49 (by decide)
theorem g49_0 {S : XS} {c : Nat × Nat} : gR [3] 0 (hp S c) 49 = some 50 := gR_hp s49 (by decide) rfl
theorem g49_1 {S : XS} {c : Nat × Nat} : gR [3] 1 (hp S c) 49 = some 51 := gR_hp s49 (by decide) rfl
theorem g49_2 {S : XS} {c : Nat × Nat} : gR [3] 2 (hp S c) 49 = some 56 := gR_hp s49 (by decide) rfl
theorem g49_3 {S : XS} {c : Nat × Nat} : gI [3] 3 (hp S c) 49 = some (S.1 49 3) := gI_hp s49 (by decide) rfl
theorem p49_3 {S : XS} {c : Nat × Nat} {v : Int32} : xp [3] 3 (hp S c) 49 (.int v) = some (hp (wA S 49 (upd (S.1 49) 3 v)) c) := xp_hp s49 (by decide) rfl
theorem g49_4 {S : XS} {c : Nat × Nat} : gI [3] 4 (hp S c) 49 = some (S.1 49 4) := gI_hp s49 (by decide) rfl
theorem p49_4 {S : XS} {c : Nat × Nat} {v : Int32} : xp [3] 4 (hp S c) 49 (.int v) = some (hp (wA S 49 (upd (S.1 49) 4 v)) c) := xp_hp s49 (by decide) rfl
theorem g49_5 {S : XS} {c : Nat × Nat} : gI [3] 5 (hp S c) 49 = some (S.1 49 5) := gI_hp s49 (by decide) rfl
theorem p49_5 {S : XS} {c : Nat × Nat} {v : Int32} : xp [3] 5 (hp S c) 49 (.int v) = some (hp (wA S 49 (upd (S.1 49) 5 v)) c) := xp_hp s49 (by decide) rfl
theorem s56 : sh 56 = some (.inr (1, [60, 61, 62])) := by decide +kernel
theorem k56 {S : XS} {c : Nat × Nat} : ck [1] (hp S c) 56 = some () := ck_hp s56 (by decide)
theorem g56_0 {S : XS} {c : Nat × Nat} : gR [1] 0 (hp S c) 56 = some 57 := gR_hp s56 (by decide) rfl
theorem g56_1 {S : XS} {c : Nat × Nat} : gR [1] 1 (hp S c) 56 = some 58 := gR_hp s56 (by decide) rfl
theorem g56_2 {S : XS} {c : Nat × Nat} : gR [1] 2 (hp S c) 56 = some 59 := gR_hp s56 (by decide) rfl
theorem s260 : sh 260 = some (.inr (6, [264, 265, 266, 267, 268, 269, 0])) := by decide +kernel
theorem k260 {S : XS} {c : Nat × Nat} : ck [6] (hp S c) 260 = some () := ck_hp s260 (by decide)
theorem g260_0 {S : XS} {c : Nat × Nat} : gR [6] 0 (hp S c) 260 = some 261 := gR_hp s260 (by decide) rfl
theorem g260_1 {S : XS} {c : Nat × Nat} : gR [6] 1 (hp S c) 260 = some 262 := gR_hp s260 (by decide) rfl
theorem g260_2 {S : XS} {c : Nat × Nat} : gR [6] 2 (hp S c) 260 = some 263 := gR_hp s260 (by decide) rfl
theorem g260_3 {S : XS} {c : Nat × Nat} : gR [6] 3 (hp S c) 260 = some 264 := gR_hp s260 (by decide) rfl
theorem g260_4 {S : XS} {c : Nat × Nat} : gR [6] 4 (hp S c) 260 = some 265 := gR_hp s260 (by decide) rfl
theorem g260_5 {S : XS} {c : Nat × Nat} : gR [6] 5 (hp S c) 260 = some 266 := gR_hp s260 (by decide) rfl
theorem g260_6 {S : XS} {c : Nat × Nat} : gI [6] 6 (hp S c) 260 = some (S.1 260 6) := gI_hp s260 (by decide) rfl
theorem p260_6 {S : XS} {c : Nat × Nat} {v : Int32} : xp [6] 6 (hp S c) 260 (.int v) = some (hp (wA S 260 (upd (S.1 260) 6 v)) c) := xp_hp s260 (by decide) rfl
theorem s271 : sh 271 = some (.inr (10, [275, 276, 277, 278, 0, 0, 0, 0, 0, 0, 0])) := by decide +kernel
theorem k271 {S : XS} {c : Nat × Nat} : ck [10] (hp S c) 271 = some () := ck_hp s271 (by decide)
theorem g271_0 {S : XS} {c : Nat × Nat} : gR [10] 0 (hp S c) 271 = some 272 := gR_hp s271 (by decide) rfl
theorem g271_1 {S : XS} {c : Nat × Nat} : gR [10] 1 (hp S c) 271 = some 273 := gR_hp s271 (by decide) rfl
theorem g271_2 {S : XS} {c : Nat × Nat} : gR [10] 2 (hp S c) 271 = some 274 := gR_hp s271 (by decide) rfl
theorem g271_3 {S : XS} {c : Nat × Nat} : gR [10] 3 (hp S c) 271 = some 275 := gR_hp s271 (by decide) rfl
theorem g271_4 {S : XS} {c : Nat × Nat} : gI [10] 4 (hp S c) 271 = some (S.1 271 4) := gI_hp s271 (by decide) rfl
theorem p271_4 {S : XS} {c : Nat × Nat} {v : Int32} : xp [10] 4 (hp S c) 271 (.int v) = some (hp (wA S 271 (upd (S.1 271) 4 v)) c) := xp_hp s271 (by decide) rfl
theorem g271_5 {S : XS} {c : Nat × Nat} : gI [10] 5 (hp S c) 271 = some (S.1 271 5) := gI_hp s271 (by decide) rfl
theorem p271_5 {S : XS} {c : Nat × Nat} {v : Int32} : xp [10] 5 (hp S c) 271 (.int v) = some (hp (wA S 271 (upd (S.1 271) 5 v)) c) := xp_hp s271 (by decide) rfl
theorem g271_6 {S : XS} {c : Nat × Nat} : gI [10] 6 (hp S c) 271 = some (S.1 271 6) := gI_hp s271 (by decide) rfl
theorem p271_6 {S : XS} {c : Nat × Nat} {v : Int32} : xp [10] 6 (hp S c) 271 (.int v) = some (hp (wA S 271 (upd (S.1 271) 6 v)) c) := xp_hp s271 (by decide) rfl
theorem g271_7 {S : XS} {c : Nat × Nat} : gI [10] 7 (hp S c) 271 = some (S.1 271 7) := gI_hp s271 (by decide) rfl
theorem p271_7 {S : XS} {c : Nat × Nat} {v : Int32} : xp [10] 7 (hp S c) 271 (.int v) = some (hp (wA S 271 (upd (S.1 271) 7 v)) c) := xp_hp s271 (by decide) rfl
theorem g271_8 {S : XS} {c : Nat × Nat} : gI [10] 8 (hp S c) 271 = some (S.1 271 8) := gI_hp s271 (by decide) rfl
theorem p271_8 {S : XS} {c : Nat × Nat} {v : Int32} : xp [10] 8 (hp S c) 271 (.int v) = some (hp (wA S 271 (upd (S.1 271) 8 v)) c) := xp_hp s271 (by decide) rfl
theorem g271_9 {S : XS} {c : Nat × Nat} : gI [10] 9 (hp S c) 271 = some (S.1 271 9) := gI_hp s271 (by decide) rfl
theorem p271_9 {S : XS} {c : Nat × Nat} {v : Int32} : xp [10] 9 (hp S c) 271 (.int v) = some (hp (wA S 271 (upd (S.1 271) 9 v)) c) := xp_hp s271 (by decide) rfl
theorem g271_10 {S : XS} {c : Nat × Nat} : gI [10] 10 (hp S c) 271 = some (S.1 271 10) := gI_hp s271 (by decide) rfl
theorem p271_10 {S : XS} {c : Nat × Nat} {v : Int32} : xp [10] 10 (hp S c) 271 (.int v) = some (hp (wA S 271 (upd (S.1 271) 10 v)) c) := xp_hp s271 (by decide) rfl
theorem s301 : sh 301 = some (.inr (7, [305, 2, 0, 0])) := by decide +kernel
theorem k301 {S : XS} {c : Nat × Nat} : ck [7] (hp S c) 301 = some () := ck_hp s301 (by decide)
theorem g301_0 {S : XS} {c : Nat × Nat} : gR [7] 0 (hp S c) 301 = some 302 := gR_hp s301 (by decide) rfl
theorem g301_1 {S : XS} {c : Nat × Nat} : gR [7] 1 (hp S c) 301 = some (S.2.2 301) := gT_hp s301 (by decide) rfl
theorem p301_1 {S : XS} {c : Nat × Nat} {v : Nat} : xp [7] 1 (hp S c) 301 (.ref v) = some (hp (wT S 301 v) c) := xpT_hp s301 (by decide) rfl (by decide)
theorem g301_2 {S : XS} {c : Nat × Nat} : gI [7] 2 (hp S c) 301 = some (S.1 301 2) := gI_hp s301 (by decide) rfl
theorem p301_2 {S : XS} {c : Nat × Nat} {v : Int32} : xp [7] 2 (hp S c) 301 (.int v) = some (hp (wA S 301 (upd (S.1 301) 2 v)) c) := xp_hp s301 (by decide) rfl
theorem g301_3 {S : XS} {c : Nat × Nat} : gI [7] 3 (hp S c) 301 = some (S.1 301 3) := gI_hp s301 (by decide) rfl
theorem p301_3 {S : XS} {c : Nat × Nat} {v : Int32} : xp [7] 3 (hp S c) 301 (.int v) = some (hp (wA S 301 (upd (S.1 301) 3 v)) c) := xp_hp s301 (by decide) rfl
theorem s351 : sh 351 = some (.inr (12, [0, 355, 356, 357, 358, 2, 0, 0, 0, 0, 0, 0, 0, 0, 0, 1000000018, 1000000013, 0, 359, 360, 361, 362, 363, 364, 365, 366, 0, 0, 0, 0, 0, 0, 367, 368, 369, 0, 0, 370, 371, 372, 0, 1, 373, 374, 375, 0, 0, 0, 0, 0, 376, 0, 377, 378, 379, 380, 0])) := by decide +kernel
theorem k351 {S : XS} {c : Nat × Nat} : ck [12] (hp S c) 351 = some () := ck_hp s351 (by decide)
theorem g351_0 {S : XS} {c : Nat × Nat} : gI [12] 0 (hp S c) 351 = some (S.1 351 0) := gI_hp s351 (by decide) rfl
theorem p351_0 {S : XS} {c : Nat × Nat} {v : Int32} : xp [12] 0 (hp S c) 351 (.int v) = some (hp (wA S 351 (upd (S.1 351) 0 v)) c) := xp_hp s351 (by decide) rfl
theorem g351_1 {S : XS} {c : Nat × Nat} : gR [12] 1 (hp S c) 351 = some 352 := gR_hp s351 (by decide) rfl
theorem g351_2 {S : XS} {c : Nat × Nat} : gR [12] 2 (hp S c) 351 = some 353 := gR_hp s351 (by decide) rfl
theorem g351_3 {S : XS} {c : Nat × Nat} : gR [12] 3 (hp S c) 351 = some 354 := gR_hp s351 (by decide) rfl
theorem g351_4 {S : XS} {c : Nat × Nat} : gR [12] 4 (hp S c) 351 = some 355 := gR_hp s351 (by decide) rfl
theorem g351_5 {S : XS} {c : Nat × Nat} : gR [12] 5 (hp S c) 351 = some (S.2.2 351) := gT_hp s351 (by decide) rfl
theorem p351_5 {S : XS} {c : Nat × Nat} {v : Nat} : xp [12] 5 (hp S c) 351 (.ref v) = some (hp (wT S 351 v) c) := xpT_hp s351 (by decide) rfl (by decide)
theorem g351_6 {S : XS} {c : Nat × Nat} : gI [12] 6 (hp S c) 351 = some (S.1 351 6) := gI_hp s351 (by decide) rfl
theorem p351_6 {S : XS} {c : Nat × Nat} {v : Int32} : xp [12] 6 (hp S c) 351 (.int v) = some (hp (wA S 351 (upd (S.1 351) 6 v)) c) := xp_hp s351 (by decide) rfl
theorem g351_7 {S : XS} {c : Nat × Nat} : gI [12] 7 (hp S c) 351 = some (S.1 351 7) := gI_hp s351 (by decide) rfl
theorem p351_7 {S : XS} {c : Nat × Nat} {v : Int32} : xp [12] 7 (hp S c) 351 (.int v) = some (hp (wA S 351 (upd (S.1 351) 7 v)) c) := xp_hp s351 (by decide) rfl
theorem g351_8 {S : XS} {c : Nat × Nat} : gI [12] 8 (hp S c) 351 = some (S.1 351 8) := gI_hp s351 (by decide) rfl
theorem p351_8 {S : XS} {c : Nat × Nat} {v : Int32} : xp [12] 8 (hp S c) 351 (.int v) = some (hp (wA S 351 (upd (S.1 351) 8 v)) c) := xp_hp s351 (by decide) rfl
theorem g351_9 {S : XS} {c : Nat × Nat} : gI [12] 9 (hp S c) 351 = some (S.1 351 9) := gI_hp s351 (by decide) rfl
theorem p351_9 {S : XS} {c : Nat × Nat} {v : Int32} : xp [12] 9 (hp S c) 351 (.int v) = some (hp (wA S 351 (upd (S.1 351) 9 v)) c) := xp_hp s351 (by decide) rfl
theorem g351_10 {S : XS} {c : Nat × Nat} : gI [12] 10 (hp S c) 351 = some (S.1 351 10) := gI_hp s351 (by decide) rfl
theorem p351_10 {S : XS} {c : Nat × Nat} {v : Int32} : xp [12] 10 (hp S c) 351 (.int v) = some (hp (wA S 351 (upd (S.1 351) 10 v)) c) := xp_hp s351 (by decide) rfl
theorem g351_11 {S : XS} {c : Nat × Nat} : gI [12] 11 (hp S c) 351 = some (S.1 351 11) := gI_hp s351 (by decide) rfl
theorem p351_11 {S : XS} {c : Nat × Nat} {v : Int32} : xp [12] 11 (hp S c) 351 (.int v) = some (hp (wA S 351 (upd (S.1 351) 11 v)) c) := xp_hp s351 (by decide) rfl
theorem g351_12 {S : XS} {c : Nat × Nat} : gI [12] 12 (hp S c) 351 = some (S.1 351 12) := gI_hp s351 (by decide) rfl
theorem p351_12 {S : XS} {c : Nat × Nat} {v : Int32} : xp [12] 12 (hp S c) 351 (.int v) = some (hp (wA S 351 (upd (S.1 351) 12 v)) c) := xp_hp s351 (by decide) rfl
theorem g351_13 {S : XS} {c : Nat × Nat} : gI [12] 13 (hp S c) 351 = some (S.1 351 13) := gI_hp s351 (by decide) rfl
theorem p351_13 {S : XS} {c : Nat × Nat} {v : Int32} : xp [12] 13 (hp S c) 351 (.int v) = some (hp (wA S 351 (upd (S.1 351) 13 v)) c) := xp_hp s351 (by decide) rfl
theorem g351_14 {S : XS} {c : Nat × Nat} : gI [12] 14 (hp S c) 351 = some (S.1 351 14) := gI_hp s351 (by decide) rfl
theorem p351_14 {S : XS} {c : Nat × Nat} {v : Int32} : xp [12] 14 (hp S c) 351 (.int v) = some (hp (wA S 351 (upd (S.1 351) 14 v)) c) := xp_hp s351 (by decide) rfl
theorem g351_15 {S : XS} {c : Nat × Nat} : gR [12] 15 (hp S c) 351 = some 1000000015 := gR_hp s351 (by decide) rfl
theorem g351_16 {S : XS} {c : Nat × Nat} : gR [12] 16 (hp S c) 351 = some 1000000010 := gR_hp s351 (by decide) rfl
theorem g351_17 {S : XS} {c : Nat × Nat} : gI [12] 17 (hp S c) 351 = some (S.1 351 17) := gI_hp s351 (by decide) rfl
theorem p351_17 {S : XS} {c : Nat × Nat} {v : Int32} : xp [12] 17 (hp S c) 351 (.int v) = some (hp (wA S 351 (upd (S.1 351) 17 v)) c) := xp_hp s351 (by decide) rfl
theorem g351_18 {S : XS} {c : Nat × Nat} : gR [12] 18 (hp S c) 351 = some 356 := gR_hp s351 (by decide) rfl
theorem g351_19 {S : XS} {c : Nat × Nat} : gR [12] 19 (hp S c) 351 = some 357 := gR_hp s351 (by decide) rfl
theorem g351_20 {S : XS} {c : Nat × Nat} : gR [12] 20 (hp S c) 351 = some 358 := gR_hp s351 (by decide) rfl
theorem g351_21 {S : XS} {c : Nat × Nat} : gR [12] 21 (hp S c) 351 = some 359 := gR_hp s351 (by decide) rfl
theorem g351_22 {S : XS} {c : Nat × Nat} : gR [12] 22 (hp S c) 351 = some 360 := gR_hp s351 (by decide) rfl
theorem g351_23 {S : XS} {c : Nat × Nat} : gR [12] 23 (hp S c) 351 = some 361 := gR_hp s351 (by decide) rfl
theorem g351_24 {S : XS} {c : Nat × Nat} : gR [12] 24 (hp S c) 351 = some 362 := gR_hp s351 (by decide) rfl
theorem g351_25 {S : XS} {c : Nat × Nat} : gR [12] 25 (hp S c) 351 = some 363 := gR_hp s351 (by decide) rfl
theorem g351_26 {S : XS} {c : Nat × Nat} : gI [12] 26 (hp S c) 351 = some (S.1 351 26) := gI_hp s351 (by decide) rfl
theorem p351_26 {S : XS} {c : Nat × Nat} {v : Int32} : xp [12] 26 (hp S c) 351 (.int v) = some (hp (wA S 351 (upd (S.1 351) 26 v)) c) := xp_hp s351 (by decide) rfl
theorem g351_27 {S : XS} {c : Nat × Nat} : gI [12] 27 (hp S c) 351 = some (S.1 351 27) := gI_hp s351 (by decide) rfl
theorem p351_27 {S : XS} {c : Nat × Nat} {v : Int32} : xp [12] 27 (hp S c) 351 (.int v) = some (hp (wA S 351 (upd (S.1 351) 27 v)) c) := xp_hp s351 (by decide) rfl
theorem g351_28 {S : XS} {c : Nat × Nat} : gI [12] 28 (hp S c) 351 = some (S.1 351 28) := gI_hp s351 (by decide) rfl
theorem p351_28 {S : XS} {c : Nat × Nat} {v : Int32} : xp [12] 28 (hp S c) 351 (.int v) = some (hp (wA S 351 (upd (S.1 351) 28 v)) c) := xp_hp s351 (by decide) rfl
theorem g351_29 {S : XS} {c : Nat × Nat} : gI [12] 29 (hp S c) 351 = some (S.1 351 29) := gI_hp s351 (by decide) rfl
theorem p351_29 {S : XS} {c : Nat × Nat} {v : Int32} : xp [12] 29 (hp S c) 351 (.int v) = some (hp (wA S 351 (upd (S.1 351) 29 v)) c) := xp_hp s351 (by decide) rfl
theorem g351_30 {S : XS} {c : Nat × Nat} : gI [12] 30 (hp S c) 351 = some (S.1 351 30) := gI_hp s351 (by decide) rfl
theorem p351_30 {S : XS} {c : Nat × Nat} {v : Int32} : xp [12] 30 (hp S c) 351 (.int v) = some (hp (wA S 351 (upd (S.1 351) 30 v)) c) := xp_hp s351 (by decide) rfl
theorem g351_31 {S : XS} {c : Nat × Nat} : gI [12] 31 (hp S c) 351 = some (S.1 351 31) := gI_hp s351 (by decide) rfl
theorem p351_31 {S : XS} {c : Nat × Nat} {v : Int32} : xp [12] 31 (hp S c) 351 (.int v) = some (hp (wA S 351 (upd (S.1 351) 31 v)) c) := xp_hp s351 (by decide) rfl
theorem g351_32 {S : XS} {c : Nat × Nat} : gR [12] 32 (hp S c) 351 = some 364 := gR_hp s351 (by decide) rfl
theorem g351_33 {S : XS} {c : Nat × Nat} : gR [12] 33 (hp S c) 351 = some 365 := gR_hp s351 (by decide) rfl
theorem g351_34 {S : XS} {c : Nat × Nat} : gR [12] 34 (hp S c) 351 = some 366 := gR_hp s351 (by decide) rfl
theorem g351_35 {S : XS} {c : Nat × Nat} : gI [12] 35 (hp S c) 351 = some (S.1 351 35) := gI_hp s351 (by decide) rfl
theorem p351_35 {S : XS} {c : Nat × Nat} {v : Int32} : xp [12] 35 (hp S c) 351 (.int v) = some (hp (wA S 351 (upd (S.1 351) 35 v)) c) := xp_hp s351 (by decide) rfl
theorem g351_36 {S : XS} {c : Nat × Nat} : gI [12] 36 (hp S c) 351 = some (S.1 351 36) := gI_hp s351 (by decide) rfl
theorem p351_36 {S : XS} {c : Nat × Nat} {v : Int32} : xp [12] 36 (hp S c) 351 (.int v) = some (hp (wA S 351 (upd (S.1 351) 36 v)) c) := xp_hp s351 (by decide) rfl
theorem g351_37 {S : XS} {c : Nat × Nat} : gR [12] 37 (hp S c) 351 = some 367 := gR_hp s351 (by decide) rfl
theorem g351_38 {S : XS} {c : Nat × Nat} : gR [12] 38 (hp S c) 351 = some 368 := gR_hp s351 (by decide) rfl
theorem g351_39 {S : XS} {c : Nat × Nat} : gR [12] 39 (hp S c) 351 = some 369 := gR_hp s351 (by decide) rfl
theorem g351_40 {S : XS} {c : Nat × Nat} : gI [12] 40 (hp S c) 351 = some (S.1 351 40) := gI_hp s351 (by decide) rfl
theorem p351_40 {S : XS} {c : Nat × Nat} {v : Int32} : xp [12] 40 (hp S c) 351 (.int v) = some (hp (wA S 351 (upd (S.1 351) 40 v)) c) := xp_hp s351 (by decide) rfl
theorem g351_41 {S : XS} {c : Nat × Nat} : gL [12] 41 (hp S c) 351 = some (S.2.1 351 41) := gL_hp s351 (by decide) rfl
theorem p351_41 {S : XS} {c : Nat × Nat} {v : Int64} : xp [12] 41 (hp S c) 351 (.long v) = some (hp (wL S 351 (vp_updL (S.2.1 351) 41 v)) c) := xpL_hp s351 (by decide) rfl
theorem g351_42 {S : XS} {c : Nat × Nat} : gR [12] 42 (hp S c) 351 = some 370 := gR_hp s351 (by decide) rfl
theorem g351_43 {S : XS} {c : Nat × Nat} : gR [12] 43 (hp S c) 351 = some 371 := gR_hp s351 (by decide) rfl
theorem g351_44 {S : XS} {c : Nat × Nat} : gR [12] 44 (hp S c) 351 = some 372 := gR_hp s351 (by decide) rfl
theorem g351_45 {S : XS} {c : Nat × Nat} : gI [12] 45 (hp S c) 351 = some (S.1 351 45) := gI_hp s351 (by decide) rfl
theorem p351_45 {S : XS} {c : Nat × Nat} {v : Int32} : xp [12] 45 (hp S c) 351 (.int v) = some (hp (wA S 351 (upd (S.1 351) 45 v)) c) := xp_hp s351 (by decide) rfl
theorem g351_46 {S : XS} {c : Nat × Nat} : gI [12] 46 (hp S c) 351 = some (S.1 351 46) := gI_hp s351 (by decide) rfl
theorem p351_46 {S : XS} {c : Nat × Nat} {v : Int32} : xp [12] 46 (hp S c) 351 (.int v) = some (hp (wA S 351 (upd (S.1 351) 46 v)) c) := xp_hp s351 (by decide) rfl
theorem g351_47 {S : XS} {c : Nat × Nat} : gI [12] 47 (hp S c) 351 = some (S.1 351 47) := gI_hp s351 (by decide) rfl
theorem p351_47 {S : XS} {c : Nat × Nat} {v : Int32} : xp [12] 47 (hp S c) 351 (.int v) = some (hp (wA S 351 (upd (S.1 351) 47 v)) c) := xp_hp s351 (by decide) rfl
theorem g351_48 {S : XS} {c : Nat × Nat} : gI [12] 48 (hp S c) 351 = some (S.1 351 48) := gI_hp s351 (by decide) rfl
theorem p351_48 {S : XS} {c : Nat × Nat} {v : Int32} : xp [12] 48 (hp S c) 351 (.int v) = some (hp (wA S 351 (upd (S.1 351) 48 v)) c) := xp_hp s351 (by decide) rfl
theorem g351_49 {S : XS} {c : Nat × Nat} : gI [12] 49 (hp S c) 351 = some (S.1 351 49) := gI_hp s351 (by decide) rfl
theorem p351_49 {S : XS} {c : Nat × Nat} {v : Int32} : xp [12] 49 (hp S c) 351 (.int v) = some (hp (wA S 351 (upd (S.1 351) 49 v)) c) := xp_hp s351 (by decide) rfl
theorem g351_50 {S : XS} {c : Nat × Nat} : gR [12] 50 (hp S c) 351 = some 373 := gR_hp s351 (by decide) rfl
theorem g351_51 {S : XS} {c : Nat × Nat} : gI [12] 51 (hp S c) 351 = some (S.1 351 51) := gI_hp s351 (by decide) rfl
theorem p351_51 {S : XS} {c : Nat × Nat} {v : Int32} : xp [12] 51 (hp S c) 351 (.int v) = some (hp (wA S 351 (upd (S.1 351) 51 v)) c) := xp_hp s351 (by decide) rfl
theorem g351_52 {S : XS} {c : Nat × Nat} : gR [12] 52 (hp S c) 351 = some 374 := gR_hp s351 (by decide) rfl
theorem g351_53 {S : XS} {c : Nat × Nat} : gR [12] 53 (hp S c) 351 = some 375 := gR_hp s351 (by decide) rfl
theorem g351_54 {S : XS} {c : Nat × Nat} : gR [12] 54 (hp S c) 351 = some 376 := gR_hp s351 (by decide) rfl
theorem g351_55 {S : XS} {c : Nat × Nat} : gR [12] 55 (hp S c) 351 = some 377 := gR_hp s351 (by decide) rfl
theorem g351_56 {S : XS} {c : Nat × Nat} : gI [12] 56 (hp S c) 351 = some (S.1 351 56) := gI_hp s351 (by decide) rfl
theorem p351_56 {S : XS} {c : Nat × Nat} {v : Int32} : xp [12] 56 (hp S c) 351 (.int v) = some (hp (wA S 351 (upd (S.1 351) 56 v)) c) := xp_hp s351 (by decide) rfl
theorem s1 : sh 1 = some (.inl (0, 240, 0, 0)) := by decide +kernel
theorem a1 {S : XS} {c : Nat × Nat} {k : Nat} (hk : k < 240) : aI (hp S c) 1 (nI k) = some (S.1 1 k) := aI_hp s1 hk (by decide)
theorem q1 {S : XS} {c : Nat × Nat} {k : Nat} {v : Int32} (hk : k < 240) : pI (hp S c) 1 (nI k) v = some (hp (wA S 1 (upd (S.1 1) k v)) c) := pI_hp s1 hk (by decide)
theorem n1 {S : XS} {c : Nat × Nat} : aN (hp S c) 1 = some (nI 240) := aN_hp s1 (by decide)
theorem s3 : sh 3 = some (.inl (0, 0, 0, 0)) := by decide +kernel
theorem n3 {S : XS} {c : Nat × Nat} : aN (hp S c) 3 = some (nI 0) := aN_hp s3 (by decide)
theorem s9 : sh 9 = some (.inl (0, 8, 0, 0)) := by decide +kernel
theorem a9 {S : XS} {c : Nat × Nat} {k : Nat} (hk : k < 8) : aI (hp S c) 9 (nI k) = some (S.1 9 k) := aI_hp s9 hk (by decide)
theorem q9 {S : XS} {c : Nat × Nat} {k : Nat} {v : Int32} (hk : k < 8) : pI (hp S c) 9 (nI k) v = some (hp (wA S 9 (upd (S.1 9) k v)) c) := pI_hp s9 hk (by decide)
theorem n9 {S : XS} {c : Nat × Nat} : aN (hp S c) 9 = some (nI 8) := aN_hp s9 (by decide)
theorem s11 : sh 11 = some (.inl (0, 0, 0, 0)) := by decide +kernel
theorem n11 {S : XS} {c : Nat × Nat} : aN (hp S c) 11 = some (nI 0) := aN_hp s11 (by decide)
theorem s12 : sh 12 = some (.inl (0, 6, 0, 0)) := by decide +kernel
theorem a12 {S : XS} {c : Nat × Nat} {k : Nat} (hk : k < 6) : aI (hp S c) 12 (nI k) = some (S.1 12 k) := aI_hp s12 hk (by decide)
theorem q12 {S : XS} {c : Nat × Nat} {k : Nat} {v : Int32} (hk : k < 6) : pI (hp S c) 12 (nI k) v = some (hp (wA S 12 (upd (S.1 12) k v)) c) := pI_hp s12 hk (by decide)
theorem n12 {S : XS} {c : Nat × Nat} : aN (hp S c) 12 = some (nI 6) := aN_hp s12 (by decide)
theorem s14 : sh 14 = some (.inl (0, 0, 0, 0)) := by decide +kernel
theorem n14 {S : XS} {c : Nat × Nat} : aN (hp S c) 14 = some (nI 0) := aN_hp s14 (by decide)
theorem s15 : sh 15 = some (.inl (0, 16, 0, 0)) := by decide +kernel
theorem a15 {S : XS} {c : Nat × Nat} {k : Nat} (hk : k < 16) : aI (hp S c) 15 (nI k) = some (S.1 15 k) := aI_hp s15 hk (by decide)
theorem q15 {S : XS} {c : Nat × Nat} {k : Nat} {v : Int32} (hk : k < 16) : pI (hp S c) 15 (nI k) v = some (hp (wA S 15 (upd (S.1 15) k v)) c) := pI_hp s15 hk (by decide)
theorem n15 {S : XS} {c : Nat × Nat} : aN (hp S c) 15 = some (nI 16) := aN_hp s15 (by decide)
theorem s17 : sh 17 = some (.inl (0, 4, 0, 0)) := by decide +kernel
theorem a17 {S : XS} {c : Nat × Nat} {k : Nat} (hk : k < 4) : aI (hp S c) 17 (nI k) = some (S.1 17 k) := aI_hp s17 hk (by decide)
theorem q17 {S : XS} {c : Nat × Nat} {k : Nat} {v : Int32} (hk : k < 4) : pI (hp S c) 17 (nI k) v = some (hp (wA S 17 (upd (S.1 17) k v)) c) := pI_hp s17 hk (by decide)
theorem n17 {S : XS} {c : Nat × Nat} : aN (hp S c) 17 = some (nI 4) := aN_hp s17 (by decide)
theorem s18 : sh 18 = some (.inl (5, 4, 19, 1)) := by decide +kernel
theorem a18 {S : XS} {c : Nat × Nat} {k : Nat} (hk : k < 4) : aR 5 (hp S c) 18 (nI k) = some (19 + 1 * k) := aR_hp s18 (by decide) hk (by decide)
theorem n18 {S : XS} {c : Nat × Nat} : aN (hp S c) 18 = some (nI 4) := aN_hp s18 (by decide)
theorem s19 : sh 19 = some (.inl (0, 240, 0, 0)) := by decide +kernel
theorem a19 {S : XS} {c : Nat × Nat} {k : Nat} (hk : k < 240) : aI (hp S c) 19 (nI k) = some (S.1 19 k) := aI_hp s19 hk (by decide)
theorem q19 {S : XS} {c : Nat × Nat} {k : Nat} {v : Int32} (hk : k < 240) : pI (hp S c) 19 (nI k) v = some (hp (wA S 19 (upd (S.1 19) k v)) c) := pI_hp s19 hk (by decide)
theorem n19 {S : XS} {c : Nat × Nat} : aN (hp S c) 19 = some (nI 240) := aN_hp s19 (by decide)
theorem s20 : sh 20 = some (.inl (0, 240, 0, 0)) := by decide +kernel
theorem a20 {S : XS} {c : Nat × Nat} {k : Nat} (hk : k < 240) : aI (hp S c) 20 (nI k) = some (S.1 20 k) := aI_hp s20 hk (by decide)
theorem q20 {S : XS} {c : Nat × Nat} {k : Nat} {v : Int32} (hk : k < 240) : pI (hp S c) 20 (nI k) v = some (hp (wA S 20 (upd (S.1 20) k v)) c) := pI_hp s20 hk (by decide)
theorem n20 {S : XS} {c : Nat × Nat} : aN (hp S c) 20 = some (nI 240) := aN_hp s20 (by decide)
theorem s21 : sh 21 = some (.inl (0, 240, 0, 0)) := by decide +kernel
theorem a21 {S : XS} {c : Nat × Nat} {k : Nat} (hk : k < 240) : aI (hp S c) 21 (nI k) = some (S.1 21 k) := aI_hp s21 hk (by decide)
theorem q21 {S : XS} {c : Nat × Nat} {k : Nat} {v : Int32} (hk : k < 240) : pI (hp S c) 21 (nI k) v = some (hp (wA S 21 (upd (S.1 21) k v)) c) := pI_hp s21 hk (by decide)
theorem n21 {S : XS} {c : Nat × Nat} : aN (hp S c) 21 = some (nI 240) := aN_hp s21 (by decide)
theorem s22 : sh 22 = some (.inl (0, 240, 0, 0)) := by decide +kernel
theorem a22 {S : XS} {c : Nat × Nat} {k : Nat} (hk : k < 240) : aI (hp S c) 22 (nI k) = some (S.1 22 k) := aI_hp s22 hk (by decide)
theorem q22 {S : XS} {c : Nat × Nat} {k : Nat} {v : Int32} (hk : k < 240) : pI (hp S c) 22 (nI k) v = some (hp (wA S 22 (upd (S.1 22) k v)) c) := pI_hp s22 hk (by decide)
theorem n22 {S : XS} {c : Nat × Nat} : aN (hp S c) 22 = some (nI 240) := aN_hp s22 (by decide)
theorem s24 : sh 24 = some (.inl (0, 4, 0, 0)) := by decide +kernel
theorem a24 {S : XS} {c : Nat × Nat} {k : Nat} (hk : k < 4) : aI (hp S c) 24 (nI k) = some (S.1 24 k) := aI_hp s24 hk (by decide)
theorem q24 {S : XS} {c : Nat × Nat} {k : Nat} {v : Int32} (hk : k < 4) : pI (hp S c) 24 (nI k) v = some (hp (wA S 24 (upd (S.1 24) k v)) c) := pI_hp s24 hk (by decide)
theorem n24 {S : XS} {c : Nat × Nat} : aN (hp S c) 24 = some (nI 4) := aN_hp s24 (by decide)
theorem s25 : sh 25 = some (.inl (5, 4, 26, 1)) := by decide +kernel
theorem a25 {S : XS} {c : Nat × Nat} {k : Nat} (hk : k < 4) : aR 5 (hp S c) 25 (nI k) = some (26 + 1 * k) := aR_hp s25 (by decide) hk (by decide)
theorem n25 {S : XS} {c : Nat × Nat} : aN (hp S c) 25 = some (nI 4) := aN_hp s25 (by decide)
theorem s26 : sh 26 = some (.inl (0, 16, 0, 0)) := by decide +kernel
theorem a26 {S : XS} {c : Nat × Nat} {k : Nat} (hk : k < 16) : aI (hp S c) 26 (nI k) = some (S.1 26 k) := aI_hp s26 hk (by decide)
theorem q26 {S : XS} {c : Nat × Nat} {k : Nat} {v : Int32} (hk : k < 16) : pI (hp S c) 26 (nI k) v = some (hp (wA S 26 (upd (S.1 26) k v)) c) := pI_hp s26 hk (by decide)
theorem n26 {S : XS} {c : Nat × Nat} : aN (hp S c) 26 = some (nI 16) := aN_hp s26 (by decide)
theorem s27 : sh 27 = some (.inl (0, 16, 0, 0)) := by decide +kernel
theorem a27 {S : XS} {c : Nat × Nat} {k : Nat} (hk : k < 16) : aI (hp S c) 27 (nI k) = some (S.1 27 k) := aI_hp s27 hk (by decide)
theorem q27 {S : XS} {c : Nat × Nat} {k : Nat} {v : Int32} (hk : k < 16) : pI (hp S c) 27 (nI k) v = some (hp (wA S 27 (upd (S.1 27) k v)) c) := pI_hp s27 hk (by decide)
theorem n27 {S : XS} {c : Nat × Nat} : aN (hp S c) 27 = some (nI 16) := aN_hp s27 (by decide)
theorem s28 : sh 28 = some (.inl (0, 16, 0, 0)) := by decide +kernel
theorem a28 {S : XS} {c : Nat × Nat} {k : Nat} (hk : k < 16) : aI (hp S c) 28 (nI k) = some (S.1 28 k) := aI_hp s28 hk (by decide)
theorem q28 {S : XS} {c : Nat × Nat} {k : Nat} {v : Int32} (hk : k < 16) : pI (hp S c) 28 (nI k) v = some (hp (wA S 28 (upd (S.1 28) k v)) c) := pI_hp s28 hk (by decide)
theorem n28 {S : XS} {c : Nat × Nat} : aN (hp S c) 28 = some (nI 16) := aN_hp s28 (by decide)
theorem s29 : sh 29 = some (.inl (0, 16, 0, 0)) := by decide +kernel
theorem a29 {S : XS} {c : Nat × Nat} {k : Nat} (hk : k < 16) : aI (hp S c) 29 (nI k) = some (S.1 29 k) := aI_hp s29 hk (by decide)
theorem q29 {S : XS} {c : Nat × Nat} {k : Nat} {v : Int32} (hk : k < 16) : pI (hp S c) 29 (nI k) v = some (hp (wA S 29 (upd (S.1 29) k v)) c) := pI_hp s29 hk (by decide)
theorem n29 {S : XS} {c : Nat × Nat} : aN (hp S c) 29 = some (nI 16) := aN_hp s29 (by decide)
theorem s46 : sh 46 = some (.inl (0, 128, 0, 0)) := by decide +kernel
theorem a46 {S : XS} {c : Nat × Nat} {k : Nat} (hk : k < 128) : aI (hp S c) 46 (nI k) = some (S.1 46 k) := aI_hp s46 hk (by decide)
theorem q46 {S : XS} {c : Nat × Nat} {k : Nat} {v : Int32} (hk : k < 128) : pI (hp S c) 46 (nI k) v = some (hp (wA S 46 (upd (S.1 46) k v)) c) := pI_hp s46 hk (by decide)
theorem n46 {S : XS} {c : Nat × Nat} : aN (hp S c) 46 = some (nI 128) := aN_hp s46 (by decide)
theorem s47 : sh 47 = some (.inl (0, 128, 0, 0)) := by decide +kernel
theorem a47 {S : XS} {c : Nat × Nat} {k : Nat} (hk : k < 128) : aI (hp S c) 47 (nI k) = some (S.1 47 k) := aI_hp s47 hk (by decide)
theorem q47 {S : XS} {c : Nat × Nat} {k : Nat} {v : Int32} (hk : k < 128) : pI (hp S c) 47 (nI k) v = some (hp (wA S 47 (upd (S.1 47) k v)) c) := pI_hp s47 hk (by decide)
theorem n47 {S : XS} {c : Nat × Nat} : aN (hp S c) 47 = some (nI 128) := aN_hp s47 (by decide)
theorem s48 : sh 48 = some (.inl (0, 128, 0, 0)) := by decide +kernel
theorem a48 {S : XS} {c : Nat × Nat} {k : Nat} (hk : k < 128) : aI (hp S c) 48 (nI k) = some (S.1 48 k) := aI_hp s48 hk (by decide)
theorem q48 {S : XS} {c : Nat × Nat} {k : Nat} {v : Int32} (hk : k < 128) : pI (hp S c) 48 (nI k) v = some (hp (wA S 48 (upd (S.1 48) k v)) c) := pI_hp s48 hk (by decide)
theorem n48 {S : XS} {c : Nat × Nat} : aN (hp S c) 48 = some (nI 128) := aN_hp s48 (by decide)
theorem s50 : sh 50 = some (.inl (4, 40, 60, 5)) := by decide +kernel
theorem a50 {S : XS} {c : Nat × Nat} {k : Nat} (hk : k < 40) : aR 4 (hp S c) 50 (nI k) = some (60 + 5 * k) := aR_hp s50 (by decide) hk (by decide)
theorem n50 {S : XS} {c : Nat × Nat} : aN (hp S c) 50 = some (nI 40) := aN_hp s50 (by decide)
theorem s57 : sh 57 = some (.inl (0, 128, 0, 0)) := by decide +kernel
theorem a57 {S : XS} {c : Nat × Nat} {k : Nat} (hk : k < 128) : aI (hp S c) 57 (nI k) = some (S.1 57 k) := aI_hp s57 hk (by decide)
theorem q57 {S : XS} {c : Nat × Nat} {k : Nat} {v : Int32} (hk : k < 128) : pI (hp S c) 57 (nI k) v = some (hp (wA S 57 (upd (S.1 57) k v)) c) := pI_hp s57 hk (by decide)
theorem n57 {S : XS} {c : Nat × Nat} : aN (hp S c) 57 = some (nI 128) := aN_hp s57 (by decide)
theorem s58 : sh 58 = some (.inl (0, 128, 0, 0)) := by decide +kernel
theorem a58 {S : XS} {c : Nat × Nat} {k : Nat} (hk : k < 128) : aI (hp S c) 58 (nI k) = some (S.1 58 k) := aI_hp s58 hk (by decide)
theorem q58 {S : XS} {c : Nat × Nat} {k : Nat} {v : Int32} (hk : k < 128) : pI (hp S c) 58 (nI k) v = some (hp (wA S 58 (upd (S.1 58) k v)) c) := pI_hp s58 hk (by decide)
theorem n58 {S : XS} {c : Nat × Nat} : aN (hp S c) 58 = some (nI 128) := aN_hp s58 (by decide)
theorem s59 : sh 59 = some (.inl (0, 128, 0, 0)) := by decide +kernel
theorem a59 {S : XS} {c : Nat × Nat} {k : Nat} (hk : k < 128) : aI (hp S c) 59 (nI k) = some (S.1 59 k) := aI_hp s59 hk (by decide)
theorem q59 {S : XS} {c : Nat × Nat} {k : Nat} {v : Int32} (hk : k < 128) : pI (hp S c) 59 (nI k) v = some (hp (wA S 59 (upd (S.1 59) k v)) c) := pI_hp s59 hk (by decide)
theorem n59 {S : XS} {c : Nat × Nat} : aN (hp S c) 59 = some (nI 128) := aN_hp s59 (by decide)
theorem s261 : sh 261 = some (.inl (0, 10, 0, 0)) := by decide +kernel
theorem a261 {S : XS} {c : Nat × Nat} {k : Nat} (hk : k < 10) : aI (hp S c) 261 (nI k) = some (S.1 261 k) := aI_hp s261 hk (by decide)
theorem q261 {S : XS} {c : Nat × Nat} {k : Nat} {v : Int32} (hk : k < 10) : pI (hp S c) 261 (nI k) v = some (hp (wA S 261 (upd (S.1 261) k v)) c) := pI_hp s261 hk (by decide)
theorem n261 {S : XS} {c : Nat × Nat} : aN (hp S c) 261 = some (nI 10) := aN_hp s261 (by decide)
theorem s262 : sh 262 = some (.inl (0, 10, 0, 0)) := by decide +kernel
theorem a262 {S : XS} {c : Nat × Nat} {k : Nat} (hk : k < 10) : aI (hp S c) 262 (nI k) = some (S.1 262 k) := aI_hp s262 hk (by decide)
theorem q262 {S : XS} {c : Nat × Nat} {k : Nat} {v : Int32} (hk : k < 10) : pI (hp S c) 262 (nI k) v = some (hp (wA S 262 (upd (S.1 262) k v)) c) := pI_hp s262 hk (by decide)
theorem n262 {S : XS} {c : Nat × Nat} : aN (hp S c) 262 = some (nI 10) := aN_hp s262 (by decide)
theorem s263 : sh 263 = some (.inl (0, 10, 0, 0)) := by decide +kernel
theorem a263 {S : XS} {c : Nat × Nat} {k : Nat} (hk : k < 10) : aI (hp S c) 263 (nI k) = some (S.1 263 k) := aI_hp s263 hk (by decide)
theorem q263 {S : XS} {c : Nat × Nat} {k : Nat} {v : Int32} (hk : k < 10) : pI (hp S c) 263 (nI k) v = some (hp (wA S 263 (upd (S.1 263) k v)) c) := pI_hp s263 hk (by decide)
theorem n263 {S : XS} {c : Nat × Nat} : aN (hp S c) 263 = some (nI 10) := aN_hp s263 (by decide)
theorem s264 : sh 264 = some (.inl (0, 10, 0, 0)) := by decide +kernel
theorem a264 {S : XS} {c : Nat × Nat} {k : Nat} (hk : k < 10) : aI (hp S c) 264 (nI k) = some (S.1 264 k) := aI_hp s264 hk (by decide)
theorem q264 {S : XS} {c : Nat × Nat} {k : Nat} {v : Int32} (hk : k < 10) : pI (hp S c) 264 (nI k) v = some (hp (wA S 264 (upd (S.1 264) k v)) c) := pI_hp s264 hk (by decide)
theorem n264 {S : XS} {c : Nat × Nat} : aN (hp S c) 264 = some (nI 10) := aN_hp s264 (by decide)
theorem s265 : sh 265 = some (.inl (2, 10, 0, 0)) := by decide +kernel
theorem a265 {S : XS} {c : Nat × Nat} {k : Nat} (hk : k < 10) : aZ (hp S c) 265 (nI k) = some (S.1 265 k) := aZ_hp s265 hk (by decide)
theorem q265 {S : XS} {c : Nat × Nat} {k : Nat} {v : Int32} (hk : k < 10) : pZ (hp S c) 265 (nI k) v = some (hp (wA S 265 (upd (S.1 265) k (vp_nar .boolean v))) c) := pZ_hp s265 hk (by decide)
theorem n265 {S : XS} {c : Nat × Nat} : aN (hp S c) 265 = some (nI 10) := aN_hp s265 (by decide)
theorem s266 : sh 266 = some (.inl (5, 4, 267, 1)) := by decide +kernel
theorem a266 {S : XS} {c : Nat × Nat} {k : Nat} (hk : k < 4) : aR 5 (hp S c) 266 (nI k) = some (267 + 1 * k) := aR_hp s266 (by decide) hk (by decide)
theorem n266 {S : XS} {c : Nat × Nat} : aN (hp S c) 266 = some (nI 4) := aN_hp s266 (by decide)
theorem s267 : sh 267 = some (.inl (0, 10, 0, 0)) := by decide +kernel
theorem a267 {S : XS} {c : Nat × Nat} {k : Nat} (hk : k < 10) : aI (hp S c) 267 (nI k) = some (S.1 267 k) := aI_hp s267 hk (by decide)
theorem q267 {S : XS} {c : Nat × Nat} {k : Nat} {v : Int32} (hk : k < 10) : pI (hp S c) 267 (nI k) v = some (hp (wA S 267 (upd (S.1 267) k v)) c) := pI_hp s267 hk (by decide)
theorem n267 {S : XS} {c : Nat × Nat} : aN (hp S c) 267 = some (nI 10) := aN_hp s267 (by decide)
theorem s268 : sh 268 = some (.inl (0, 10, 0, 0)) := by decide +kernel
theorem a268 {S : XS} {c : Nat × Nat} {k : Nat} (hk : k < 10) : aI (hp S c) 268 (nI k) = some (S.1 268 k) := aI_hp s268 hk (by decide)
theorem q268 {S : XS} {c : Nat × Nat} {k : Nat} {v : Int32} (hk : k < 10) : pI (hp S c) 268 (nI k) v = some (hp (wA S 268 (upd (S.1 268) k v)) c) := pI_hp s268 hk (by decide)
theorem n268 {S : XS} {c : Nat × Nat} : aN (hp S c) 268 = some (nI 10) := aN_hp s268 (by decide)
theorem s269 : sh 269 = some (.inl (0, 10, 0, 0)) := by decide +kernel
theorem a269 {S : XS} {c : Nat × Nat} {k : Nat} (hk : k < 10) : aI (hp S c) 269 (nI k) = some (S.1 269 k) := aI_hp s269 hk (by decide)
theorem q269 {S : XS} {c : Nat × Nat} {k : Nat} {v : Int32} (hk : k < 10) : pI (hp S c) 269 (nI k) v = some (hp (wA S 269 (upd (S.1 269) k v)) c) := pI_hp s269 hk (by decide)
theorem n269 {S : XS} {c : Nat × Nat} : aN (hp S c) 269 = some (nI 10) := aN_hp s269 (by decide)
theorem s270 : sh 270 = some (.inl (0, 10, 0, 0)) := by decide +kernel
theorem a270 {S : XS} {c : Nat × Nat} {k : Nat} (hk : k < 10) : aI (hp S c) 270 (nI k) = some (S.1 270 k) := aI_hp s270 hk (by decide)
theorem q270 {S : XS} {c : Nat × Nat} {k : Nat} {v : Int32} (hk : k < 10) : pI (hp S c) 270 (nI k) v = some (hp (wA S 270 (upd (S.1 270) k v)) c) := pI_hp s270 hk (by decide)
theorem n270 {S : XS} {c : Nat × Nat} : aN (hp S c) 270 = some (nI 10) := aN_hp s270 (by decide)
theorem s272 : sh 272 = some (.inl (4, 5, 276, 5)) := by decide +kernel
theorem a272 {S : XS} {c : Nat × Nat} {k : Nat} (hk : k < 5) : aR 4 (hp S c) 272 (nI k) = some (276 + 5 * k) := aR_hp s272 (by decide) hk (by decide)
theorem n272 {S : XS} {c : Nat × Nat} : aN (hp S c) 272 = some (nI 5) := aN_hp s272 (by decide)
theorem s273 : sh 273 = some (.inl (3, 2048, 0, 0)) := by decide +kernel
theorem a273 {S : XS} {c : Nat × Nat} {k : Nat} (hk : k < 2048) : aL (hp S c) 273 (nI k) = some (S.2.1 273 k) := aL_hp s273 hk (by decide)
theorem q273 {S : XS} {c : Nat × Nat} {k : Nat} {v : Int64} (hk : k < 2048) : pL (hp S c) 273 (nI k) v = some (hp (wL S 273 (vp_updL (S.2.1 273) k v)) c) := pL_hp s273 hk (by decide)
theorem n273 {S : XS} {c : Nat × Nat} : aN (hp S c) 273 = some (nI 2048) := aN_hp s273 (by decide)
theorem s274 : sh 274 = some (.inl (3, 2048, 0, 0)) := by decide +kernel
theorem a274 {S : XS} {c : Nat × Nat} {k : Nat} (hk : k < 2048) : aL (hp S c) 274 (nI k) = some (S.2.1 274 k) := aL_hp s274 hk (by decide)
theorem q274 {S : XS} {c : Nat × Nat} {k : Nat} {v : Int64} (hk : k < 2048) : pL (hp S c) 274 (nI k) v = some (hp (wL S 274 (vp_updL (S.2.1 274) k v)) c) := pL_hp s274 hk (by decide)
theorem n274 {S : XS} {c : Nat × Nat} : aN (hp S c) 274 = some (nI 2048) := aN_hp s274 (by decide)
theorem s275 : sh 275 = some (.inl (0, 2048, 0, 0)) := by decide +kernel
theorem a275 {S : XS} {c : Nat × Nat} {k : Nat} (hk : k < 2048) : aI (hp S c) 275 (nI k) = some (S.1 275 k) := aI_hp s275 hk (by decide)
theorem q275 {S : XS} {c : Nat × Nat} {k : Nat} {v : Int32} (hk : k < 2048) : pI (hp S c) 275 (nI k) v = some (hp (wA S 275 (upd (S.1 275) k v)) c) := pI_hp s275 hk (by decide)
theorem n275 {S : XS} {c : Nat × Nat} : aN (hp S c) 275 = some (nI 2048) := aN_hp s275 (by decide)
theorem s302 : sh 302 = some (.inl (4, 9, 304, 5)) := by decide +kernel
theorem a302 {S : XS} {c : Nat × Nat} {k : Nat} (hk : k < 9) : aR 4 (hp S c) 302 (nI k) = some (304 + 5 * k) := aR_hp s302 (by decide) hk (by decide)
theorem n302 {S : XS} {c : Nat × Nat} : aN (hp S c) 302 = some (nI 9) := aN_hp s302 (by decide)
theorem s303 : sh 303 = some (.inl (0, 0, 0, 0)) := by decide +kernel
theorem n303 {S : XS} {c : Nat × Nat} : aN (hp S c) 303 = some (nI 0) := aN_hp s303 (by decide)
theorem s349 : sh 349 = some (.inl (0, 6, 0, 0)) := by decide +kernel
theorem a349 {S : XS} {c : Nat × Nat} {k : Nat} (hk : k < 6) : aI (hp S c) 349 (nI k) = some (S.1 349 k) := aI_hp s349 hk (by decide)
theorem q349 {S : XS} {c : Nat × Nat} {k : Nat} {v : Int32} (hk : k < 6) : pI (hp S c) 349 (nI k) v = some (hp (wA S 349 (upd (S.1 349) k v)) c) := pI_hp s349 hk (by decide)
theorem n349 {S : XS} {c : Nat × Nat} : aN (hp S c) 349 = some (nI 6) := aN_hp s349 (by decide)
theorem s350 : sh 350 = some (.inl (0, 6, 0, 0)) := by decide +kernel
theorem a350 {S : XS} {c : Nat × Nat} {k : Nat} (hk : k < 6) : aI (hp S c) 350 (nI k) = some (S.1 350 k) := aI_hp s350 hk (by decide)
theorem q350 {S : XS} {c : Nat × Nat} {k : Nat} {v : Int32} (hk : k < 6) : pI (hp S c) 350 (nI k) v = some (hp (wA S 350 (upd (S.1 350) k v)) c) := pI_hp s350 hk (by decide)
theorem n350 {S : XS} {c : Nat × Nat} : aN (hp S c) 350 = some (nI 6) := aN_hp s350 (by decide)
theorem s352 : sh 352 = some (.inl (1, 240, 0, 0)) := by decide +kernel
theorem a352 {S : XS} {c : Nat × Nat} {k : Nat} (hk : k < 240) : aB (hp S c) 352 (nI k) = some (S.1 352 k) := aB_hp s352 hk (by decide)
theorem q352 {S : XS} {c : Nat × Nat} {k : Nat} {v : Int32} (hk : k < 240) : pB (hp S c) 352 (nI k) v = some (hp (wA S 352 (upd (S.1 352) k (vp_nar .byte v))) c) := pB_hp s352 hk (by decide)
theorem n352 {S : XS} {c : Nat × Nat} : aN (hp S c) 352 = some (nI 240) := aN_hp s352 (by decide)
theorem s353 : sh 353 = some (.inl (1, 960, 0, 0)) := by decide +kernel
theorem a353 {S : XS} {c : Nat × Nat} {k : Nat} (hk : k < 960) : aB (hp S c) 353 (nI k) = some (S.1 353 k) := aB_hp s353 hk (by decide)
theorem q353 {S : XS} {c : Nat × Nat} {k : Nat} {v : Int32} (hk : k < 960) : pB (hp S c) 353 (nI k) v = some (hp (wA S 353 (upd (S.1 353) k (vp_nar .byte v))) c) := pB_hp s353 hk (by decide)
theorem n353 {S : XS} {c : Nat × Nat} : aN (hp S c) 353 = some (nI 960) := aN_hp s353 (by decide)
theorem s354 : sh 354 = some (.inl (0, 4, 0, 0)) := by decide +kernel
theorem a354 {S : XS} {c : Nat × Nat} {k : Nat} (hk : k < 4) : aI (hp S c) 354 (nI k) = some (S.1 354 k) := aI_hp s354 hk (by decide)
theorem q354 {S : XS} {c : Nat × Nat} {k : Nat} {v : Int32} (hk : k < 4) : pI (hp S c) 354 (nI k) v = some (hp (wA S 354 (upd (S.1 354) k v)) c) := pI_hp s354 hk (by decide)
theorem n354 {S : XS} {c : Nat × Nat} : aN (hp S c) 354 = some (nI 4) := aN_hp s354 (by decide)
theorem s355 : sh 355 = some (.inl (0, 128, 0, 0)) := by decide +kernel
theorem a355 {S : XS} {c : Nat × Nat} {k : Nat} (hk : k < 128) : aI (hp S c) 355 (nI k) = some (S.1 355 k) := aI_hp s355 hk (by decide)
theorem q355 {S : XS} {c : Nat × Nat} {k : Nat} {v : Int32} (hk : k < 128) : pI (hp S c) 355 (nI k) v = some (hp (wA S 355 (upd (S.1 355) k v)) c) := pI_hp s355 hk (by decide)
theorem n355 {S : XS} {c : Nat × Nat} : aN (hp S c) 355 = some (nI 128) := aN_hp s355 (by decide)
theorem s356 : sh 356 = some (.inl (0, 2, 0, 0)) := by decide +kernel
theorem a356 {S : XS} {c : Nat × Nat} {k : Nat} (hk : k < 2) : aI (hp S c) 356 (nI k) = some (S.1 356 k) := aI_hp s356 hk (by decide)
theorem q356 {S : XS} {c : Nat × Nat} {k : Nat} {v : Int32} (hk : k < 2) : pI (hp S c) 356 (nI k) v = some (hp (wA S 356 (upd (S.1 356) k v)) c) := pI_hp s356 hk (by decide)
theorem n356 {S : XS} {c : Nat × Nat} : aN (hp S c) 356 = some (nI 2) := aN_hp s356 (by decide)
theorem s357 : sh 357 = some (.inl (0, 2, 0, 0)) := by decide +kernel
theorem a357 {S : XS} {c : Nat × Nat} {k : Nat} (hk : k < 2) : aI (hp S c) 357 (nI k) = some (S.1 357 k) := aI_hp s357 hk (by decide)
theorem q357 {S : XS} {c : Nat × Nat} {k : Nat} {v : Int32} (hk : k < 2) : pI (hp S c) 357 (nI k) v = some (hp (wA S 357 (upd (S.1 357) k v)) c) := pI_hp s357 hk (by decide)
theorem n357 {S : XS} {c : Nat × Nat} : aN (hp S c) 357 = some (nI 2) := aN_hp s357 (by decide)
theorem s358 : sh 358 = some (.inl (0, 18, 0, 0)) := by decide +kernel
theorem a358 {S : XS} {c : Nat × Nat} {k : Nat} (hk : k < 18) : aI (hp S c) 358 (nI k) = some (S.1 358 k) := aI_hp s358 hk (by decide)
theorem q358 {S : XS} {c : Nat × Nat} {k : Nat} {v : Int32} (hk : k < 18) : pI (hp S c) 358 (nI k) v = some (hp (wA S 358 (upd (S.1 358) k v)) c) := pI_hp s358 hk (by decide)
theorem n358 {S : XS} {c : Nat × Nat} : aN (hp S c) 358 = some (nI 18) := aN_hp s358 (by decide)
theorem s359 : sh 359 = some (.inl (0, 18, 0, 0)) := by decide +kernel
theorem a359 {S : XS} {c : Nat × Nat} {k : Nat} (hk : k < 18) : aI (hp S c) 359 (nI k) = some (S.1 359 k) := aI_hp s359 hk (by decide)
theorem q359 {S : XS} {c : Nat × Nat} {k : Nat} {v : Int32} (hk : k < 18) : pI (hp S c) 359 (nI k) v = some (hp (wA S 359 (upd (S.1 359) k v)) c) := pI_hp s359 hk (by decide)
theorem n359 {S : XS} {c : Nat × Nat} : aN (hp S c) 359 = some (nI 18) := aN_hp s359 (by decide)
theorem s360 : sh 360 = some (.inl (0, 36, 0, 0)) := by decide +kernel
theorem a360 {S : XS} {c : Nat × Nat} {k : Nat} (hk : k < 36) : aI (hp S c) 360 (nI k) = some (S.1 360 k) := aI_hp s360 hk (by decide)
theorem q360 {S : XS} {c : Nat × Nat} {k : Nat} {v : Int32} (hk : k < 36) : pI (hp S c) 360 (nI k) v = some (hp (wA S 360 (upd (S.1 360) k v)) c) := pI_hp s360 hk (by decide)
theorem n360 {S : XS} {c : Nat × Nat} : aN (hp S c) 360 = some (nI 36) := aN_hp s360 (by decide)
theorem s361 : sh 361 = some (.inl (0, 36, 0, 0)) := by decide +kernel
theorem a361 {S : XS} {c : Nat × Nat} {k : Nat} (hk : k < 36) : aI (hp S c) 361 (nI k) = some (S.1 361 k) := aI_hp s361 hk (by decide)
theorem q361 {S : XS} {c : Nat × Nat} {k : Nat} {v : Int32} (hk : k < 36) : pI (hp S c) 361 (nI k) v = some (hp (wA S 361 (upd (S.1 361) k v)) c) := pI_hp s361 hk (by decide)
theorem n361 {S : XS} {c : Nat × Nat} : aN (hp S c) 361 = some (nI 36) := aN_hp s361 (by decide)
theorem s362 : sh 362 = some (.inl (0, 80, 0, 0)) := by decide +kernel
theorem a362 {S : XS} {c : Nat × Nat} {k : Nat} (hk : k < 80) : aI (hp S c) 362 (nI k) = some (S.1 362 k) := aI_hp s362 hk (by decide)
theorem q362 {S : XS} {c : Nat × Nat} {k : Nat} {v : Int32} (hk : k < 80) : pI (hp S c) 362 (nI k) v = some (hp (wA S 362 (upd (S.1 362) k v)) c) := pI_hp s362 hk (by decide)
theorem n362 {S : XS} {c : Nat × Nat} : aN (hp S c) 362 = some (nI 80) := aN_hp s362 (by decide)
theorem s363 : sh 363 = some (.inl (0, 5, 0, 0)) := by decide +kernel
theorem a363 {S : XS} {c : Nat × Nat} {k : Nat} (hk : k < 5) : aI (hp S c) 363 (nI k) = some (S.1 363 k) := aI_hp s363 hk (by decide)
theorem q363 {S : XS} {c : Nat × Nat} {k : Nat} {v : Int32} (hk : k < 5) : pI (hp S c) 363 (nI k) v = some (hp (wA S 363 (upd (S.1 363) k v)) c) := pI_hp s363 hk (by decide)
theorem n363 {S : XS} {c : Nat × Nat} : aN (hp S c) 363 = some (nI 5) := aN_hp s363 (by decide)
theorem s364 : sh 364 = some (.inl (0, 232, 0, 0)) := by decide +kernel
theorem a364 {S : XS} {c : Nat × Nat} {k : Nat} (hk : k < 232) : aI (hp S c) 364 (nI k) = some (S.1 364 k) := aI_hp s364 hk (by decide)
theorem q364 {S : XS} {c : Nat × Nat} {k : Nat} {v : Int32} (hk : k < 232) : pI (hp S c) 364 (nI k) v = some (hp (wA S 364 (upd (S.1 364) k v)) c) := pI_hp s364 hk (by decide)
theorem n364 {S : XS} {c : Nat × Nat} : aN (hp S c) 364 = some (nI 232) := aN_hp s364 (by decide)
theorem s365 : sh 365 = some (.inl (0, 51, 0, 0)) := by decide +kernel
theorem a365 {S : XS} {c : Nat × Nat} {k : Nat} (hk : k < 51) : aI (hp S c) 365 (nI k) = some (S.1 365 k) := aI_hp s365 hk (by decide)
theorem q365 {S : XS} {c : Nat × Nat} {k : Nat} {v : Int32} (hk : k < 51) : pI (hp S c) 365 (nI k) v = some (hp (wA S 365 (upd (S.1 365) k v)) c) := pI_hp s365 hk (by decide)
theorem n365 {S : XS} {c : Nat × Nat} : aN (hp S c) 365 = some (nI 51) := aN_hp s365 (by decide)
theorem s366 : sh 366 = some (.inl (0, 6, 0, 0)) := by decide +kernel
theorem a366 {S : XS} {c : Nat × Nat} {k : Nat} (hk : k < 6) : aI (hp S c) 366 (nI k) = some (S.1 366 k) := aI_hp s366 hk (by decide)
theorem q366 {S : XS} {c : Nat × Nat} {k : Nat} {v : Int32} (hk : k < 6) : pI (hp S c) 366 (nI k) v = some (hp (wA S 366 (upd (S.1 366) k v)) c) := pI_hp s366 hk (by decide)
theorem n366 {S : XS} {c : Nat × Nat} : aN (hp S c) 366 = some (nI 6) := aN_hp s366 (by decide)
theorem s367 : sh 367 = some (.inl (0, 36, 0, 0)) := by decide +kernel
theorem a367 {S : XS} {c : Nat × Nat} {k : Nat} (hk : k < 36) : aI (hp S c) 367 (nI k) = some (S.1 367 k) := aI_hp s367 hk (by decide)
theorem q367 {S : XS} {c : Nat × Nat} {k : Nat} {v : Int32} (hk : k < 36) : pI (hp S c) 367 (nI k) v = some (hp (wA S 367 (upd (S.1 367) k v)) c) := pI_hp s367 hk (by decide)
theorem n367 {S : XS} {c : Nat × Nat} : aN (hp S c) 367 = some (nI 36) := aN_hp s367 (by decide)
theorem s368 : sh 368 = some (.inl (0, 6, 0, 0)) := by decide +kernel
theorem a368 {S : XS} {c : Nat × Nat} {k : Nat} (hk : k < 6) : aI (hp S c) 368 (nI k) = some (S.1 368 k) := aI_hp s368 hk (by decide)
theorem q368 {S : XS} {c : Nat × Nat} {k : Nat} {v : Int32} (hk : k < 6) : pI (hp S c) 368 (nI k) v = some (hp (wA S 368 (upd (S.1 368) k v)) c) := pI_hp s368 hk (by decide)
theorem n368 {S : XS} {c : Nat × Nat} : aN (hp S c) 368 = some (nI 6) := aN_hp s368 (by decide)
theorem s369 : sh 369 = some (.inl (0, 9280, 0, 0)) := by decide +kernel
theorem a369 {S : XS} {c : Nat × Nat} {k : Nat} (hk : k < 9280) : aI (hp S c) 369 (nI k) = some (S.1 369 k) := aI_hp s369 hk (by decide)
theorem q369 {S : XS} {c : Nat × Nat} {k : Nat} {v : Int32} (hk : k < 9280) : pI (hp S c) 369 (nI k) v = some (hp (wA S 369 (upd (S.1 369) k v)) c) := pI_hp s369 hk (by decide)
theorem n369 {S : XS} {c : Nat × Nat} : aN (hp S c) 369 = some (nI 9280) := aN_hp s369 (by decide)
theorem s370 : sh 370 = some (.inl (0, 6, 0, 0)) := by decide +kernel
theorem a370 {S : XS} {c : Nat × Nat} {k : Nat} (hk : k < 6) : aI (hp S c) 370 (nI k) = some (S.1 370 k) := aI_hp s370 hk (by decide)
theorem q370 {S : XS} {c : Nat × Nat} {k : Nat} {v : Int32} (hk : k < 6) : pI (hp S c) 370 (nI k) v = some (hp (wA S 370 (upd (S.1 370) k v)) c) := pI_hp s370 hk (by decide)
theorem n370 {S : XS} {c : Nat × Nat} : aN (hp S c) 370 = some (nI 6) := aN_hp s370 (by decide)
theorem s371 : sh 371 = some (.inl (0, 57600, 0, 0)) := by decide +kernel
theorem a371 {S : XS} {c : Nat × Nat} {k : Nat} (hk : k < 57600) : aI (hp S c) 371 (nI k) = some (S.1 371 k) := aI_hp s371 hk (by decide)
theorem q371 {S : XS} {c : Nat × Nat} {k : Nat} {v : Int32} (hk : k < 57600) : pI (hp S c) 371 (nI k) v = some (hp (wA S 371 (upd (S.1 371) k v)) c) := pI_hp s371 hk (by decide)
theorem n371 {S : XS} {c : Nat × Nat} : aN (hp S c) 371 = some (nI 57600) := aN_hp s371 (by decide)
theorem s372 : sh 372 = some (.inl (0, 255, 0, 0)) := by decide +kernel
theorem a372 {S : XS} {c : Nat × Nat} {k : Nat} (hk : k < 255) : aI (hp S c) 372 (nI k) = some (S.1 372 k) := aI_hp s372 hk (by decide)
theorem q372 {S : XS} {c : Nat × Nat} {k : Nat} {v : Int32} (hk : k < 255) : pI (hp S c) 372 (nI k) v = some (hp (wA S 372 (upd (S.1 372) k v)) c) := pI_hp s372 hk (by decide)
theorem n372 {S : XS} {c : Nat × Nat} : aN (hp S c) 372 = some (nI 255) := aN_hp s372 (by decide)
theorem s373 : sh 373 = some (.inl (0, 50, 0, 0)) := by decide +kernel
theorem a373 {S : XS} {c : Nat × Nat} {k : Nat} (hk : k < 50) : aI (hp S c) 373 (nI k) = some (S.1 373 k) := aI_hp s373 hk (by decide)
theorem q373 {S : XS} {c : Nat × Nat} {k : Nat} {v : Int32} (hk : k < 50) : pI (hp S c) 373 (nI k) v = some (hp (wA S 373 (upd (S.1 373) k v)) c) := pI_hp s373 hk (by decide)
theorem n373 {S : XS} {c : Nat × Nat} : aN (hp S c) 373 = some (nI 50) := aN_hp s373 (by decide)
theorem s374 : sh 374 = some (.inl (0, 4, 0, 0)) := by decide +kernel
theorem a374 {S : XS} {c : Nat × Nat} {k : Nat} (hk : k < 4) : aI (hp S c) 374 (nI k) = some (S.1 374 k) := aI_hp s374 hk (by decide)
theorem q374 {S : XS} {c : Nat × Nat} {k : Nat} {v : Int32} (hk : k < 4) : pI (hp S c) 374 (nI k) v = some (hp (wA S 374 (upd (S.1 374) k v)) c) := pI_hp s374 hk (by decide)
theorem n374 {S : XS} {c : Nat × Nat} : aN (hp S c) 374 = some (nI 4) := aN_hp s374 (by decide)
theorem s375 : sh 375 = some (.inl (0, 459, 0, 0)) := by decide +kernel
theorem a375 {S : XS} {c : Nat × Nat} {k : Nat} (hk : k < 459) : aI (hp S c) 375 (nI k) = some (S.1 375 k) := aI_hp s375 hk (by decide)
theorem q375 {S : XS} {c : Nat × Nat} {k : Nat} {v : Int32} (hk : k < 459) : pI (hp S c) 375 (nI k) v = some (hp (wA S 375 (upd (S.1 375) k v)) c) := pI_hp s375 hk (by decide)
theorem n375 {S : XS} {c : Nat × Nat} : aN (hp S c) 375 = some (nI 459) := aN_hp s375 (by decide)
theorem s376 : sh 376 = some (.inl (0, 6, 0, 0)) := by decide +kernel
theorem a376 {S : XS} {c : Nat × Nat} {k : Nat} (hk : k < 6) : aI (hp S c) 376 (nI k) = some (S.1 376 k) := aI_hp s376 hk (by decide)
theorem q376 {S : XS} {c : Nat × Nat} {k : Nat} {v : Int32} (hk : k < 6) : pI (hp S c) 376 (nI k) v = some (hp (wA S 376 (upd (S.1 376) k v)) c) := pI_hp s376 hk (by decide)
theorem n376 {S : XS} {c : Nat × Nat} : aN (hp S c) 376 = some (nI 6) := aN_hp s376 (by decide)
theorem s377 : sh 377 = some (.inl (0, 232, 0, 0)) := by decide +kernel
theorem a377 {S : XS} {c : Nat × Nat} {k : Nat} (hk : k < 232) : aI (hp S c) 377 (nI k) = some (S.1 377 k) := aI_hp s377 hk (by decide)
theorem q377 {S : XS} {c : Nat × Nat} {k : Nat} {v : Int32} (hk : k < 232) : pI (hp S c) 377 (nI k) v = some (hp (wA S 377 (upd (S.1 377) k v)) c) := pI_hp s377 hk (by decide)
theorem n377 {S : XS} {c : Nat × Nat} : aN (hp S c) 377 = some (nI 232) := aN_hp s377 (by decide)
theorem s378 : sh 378 = some (.inl (3, 1, 0, 0)) := by decide +kernel
theorem a378 {S : XS} {c : Nat × Nat} {k : Nat} (hk : k < 1) : aL (hp S c) 378 (nI k) = some (S.2.1 378 k) := aL_hp s378 hk (by decide)
theorem q378 {S : XS} {c : Nat × Nat} {k : Nat} {v : Int64} (hk : k < 1) : pL (hp S c) 378 (nI k) v = some (hp (wL S 378 (vp_updL (S.2.1 378) k v)) c) := pL_hp s378 hk (by decide)
theorem n378 {S : XS} {c : Nat × Nat} : aN (hp S c) 378 = some (nI 1) := aN_hp s378 (by decide)
theorem bd4 : isB 4 := ⟨rfl, rfl, rfl, rfl, rfl⟩
theorem bd30 : isB 30 := ⟨rfl, rfl, rfl, rfl, rfl⟩
theorem bd35 : isB 35 := ⟨rfl, rfl, rfl, rfl, rfl⟩
theorem bd40 : isB 40 := ⟨rfl, rfl, rfl, rfl, rfl⟩
theorem bd51 : isB 51 := ⟨rfl, rfl, rfl, rfl, rfl⟩
theorem bdM : ∀ i, i < 40 → isB (60 + 5 * i) := fun i hi => isBd_of _ ((by decide +kernel : ∀ i, i < 40 → isBd (60 + 5 * i) = true) i hi)
theorem bdW : ∀ i, i < 5 → isB (276 + 5 * i) := fun i hi => isBd_of _ ((by decide +kernel : ∀ i, i < 5 → isBd (276 + 5 * i) = true) i hi)
theorem bdP : ∀ i, i < 9 → isB (304 + 5 * i) := fun i hi => isBd_of _ ((by decide +kernel : ∀ i, i < 9 → isBd (304 + 5 * i) = true) i hi)
