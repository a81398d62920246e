/-! TOP: the start, the pure goal. io..: as the run makes the cells; i..: as the parts speak of them (i_p: from these to those) -/
set_option maxRecDepth 100000
set_option maxHeartbeats 8000000
def iRT : List (Nat × Nat × Option Nat) := [(1, 13, some 111), (111, 0, some 13), (111, 11, some 116), (111, 10, some 115), (111, 8, some 114), (111, 7, some 113), (111, 6, some 112), (1, 12, some 39), (46, 9, some 105), (106, 3, some 110), (106, 2, some 109), (106, 1, some 108), (106, 0, some 107), (105, 0, some 106), (46, 8, some 99), (100, 3, some 104), (100, 2, some 103), (100, 1, some 102), (100, 0, some 101), (99, 0, some 100), (46, 7, some 93), (94, 3, some 98), (94, 2, some 97), (94, 1, some 96), (94, 0, some 95), (93, 0, some 94), (46, 6, some 87), (88, 3, some 92), (88, 2, some 91), (88, 1, some 90), (88, 0, some 89), (87, 0, some 88), (46, 5, some 81), (82, 3, some 86), (82, 2, some 85), (82, 1, some 84), (82, 0, some 83), (81, 0, some 82), (46, 4, some 75), (76, 3, some 80), (76, 2, some 79), (76, 1, some 78), (76, 0, some 77), (75, 0, some 76), (46, 3, some 69), (70, 3, some 74), (70, 2, some 73), (70, 1, some 72), (70, 0, some 71), (69, 0, some 70), (46, 2, some 63), (64, 3, some 68), (64, 2, some 67), (64, 1, some 66), (64, 0, some 65), (63, 0, some 64), (46, 1, some 57), (58, 3, some 62), (58, 2, some 61), (58, 1, some 60), (58, 0, some 59), (57, 0, some 58), (46, 0, some 51), (52, 3, some 56), (52, 2, some 55), (52, 1, some 54), (52, 0, some 53), (51, 0, some 52), (39, 1, some 13), (39, 0, some 19), (39, 10, some 50), (39, 9, some 49), (39, 6, some 48), (39, 5, some 47), (39, 4, some 46), (39, 3, some 40), (41, 3, some 45), (41, 2, some 44), (41, 1, some 43), (41, 0, some 42), (40, 0, some 41), (1, 11, some 35), (35, 9, some 38), (35, 7, some 37), (35, 0, some 36), (1, 10, some 30), (30, 7, some 34), (30, 6, some 33), (30, 1, some 32), (30, 0, some 31), (1, 9, some 19), (19, 15, some 29), (19, 14, some 28), (19, 13, some 27), (19, 11, some 26), (19, 10, some 25), (19, 9, some 24), (19, 3, some 23), (19, 2, some 22), (19, 1, some 21), (19, 0, some 20), (1, 8, some 13), (13, 6, some 170), (13, 5, some 169), (13, 4, some 18), (13, 3, some 17), (13, 2, some 16), (13, 1, some 15), (13, 0, some 14), (1, 3, some 12), (1, 2, some 3), (3, 1, some 9), (3, 0, some 4), (9, 3, some 11), (9, 2, some 10), (9, 0, none), (4, 3, some 8), (4, 2, some 7), (4, 1, some 6), (4, 0, some 5), (1, 0, some 2)]
def iR : List (Nat × Nat × Option Nat) := (117, 89, some 168) :: (117, 86, some 167) :: (117, 84, some 166) :: (117, 83, some 165) :: (117, 82, some 164) :: (117, 81, some 163) :: (117, 80, some 162) :: (117, 79, some 161) :: (117, 75, some 160) :: (117, 74, some 159) :: (117, 73, some 158) :: (117, 72, some 157) :: (117, 71, some 156) :: (117, 67, some 155) :: (117, 66, some 154) :: (117, 65, some 153) :: (117, 62, some 152) :: (117, 61, some 151) :: (117, 57, some 150) :: (117, 56, some 149) :: (117, 51, some 148) :: (117, 49, some 147) :: (117, 47, some 146) :: (117, 46, some 145) :: (117, 45, some 144) :: (117, 43, some 143) :: (117, 40, some 142) :: (117, 39, some 141) :: (117, 38, some 140) :: (117, 37, some 139) :: (117, 36, some 138) :: (117, 34, some 137) :: (117, 33, some 136) :: (117, 31, some 135) :: (117, 30, some 134) :: (117, 29, some 133) :: (117, 28, some 132) :: (117, 26, some 131) :: (117, 23, some 130) :: (117, 22, some 129) :: (117, 21, some 128) :: (117, 20, some 127) :: (117, 19, some 126) :: (117, 18, some 125) :: (117, 17, some 124) :: (117, 12, some 123) :: (117, 11, some 122) :: (117, 10, some 121) :: (117, 7, some 120) :: (117, 1, some 119) :: (117, 0, some 118) :: iRT
def iWT : List (Nat × Nat × Int32) := [(110, 3, 1), (110, 2, 1), (109, 3, 1), (109, 2, 1), (108, 3, 1), (108, 2, 1), (107, 3, 1), (107, 2, 1), (104, 3, 1), (104, 2, 1), (103, 3, 1), (103, 2, 1), (102, 3, 1), (102, 2, 1), (101, 3, 1), (101, 2, 1), (98, 3, 1), (98, 2, 1), (97, 3, 1), (97, 2, 1), (96, 3, 1), (96, 2, 1), (95, 3, 1), (95, 2, 1), (92, 3, 1), (92, 2, 1), (91, 3, 1), (91, 2, 1), (90, 3, 1), (90, 2, 1), (89, 3, 1), (89, 2, 1), (86, 3, 1), (86, 2, 1), (85, 3, 1), (85, 2, 1), (84, 3, 1), (84, 2, 1), (83, 3, 1), (83, 2, 1), (80, 3, 1), (80, 2, 1), (79, 3, 1), (79, 2, 1), (78, 3, 1), (78, 2, 1), (77, 3, 1), (77, 2, 1), (74, 3, 1), (74, 2, 1), (73, 3, 1), (73, 2, 1), (72, 3, 1), (72, 2, 1), (71, 3, 1), (71, 2, 1), (68, 3, 1), (68, 2, 1), (67, 3, 1), (67, 2, 1), (66, 3, 1), (66, 2, 1), (65, 3, 1), (65, 2, 1), (62, 3, 1), (62, 2, 1), (61, 3, 1), (61, 2, 1), (60, 3, 1), (60, 2, 1), (59, 3, 1), (59, 2, 1), (56, 3, 1), (56, 2, 1), (55, 3, 1), (55, 2, 1), (54, 3, 1), (54, 2, 1), (53, 3, 1), (53, 2, 1), (48, 3, 1), (48, 2, 1), (47, 3, 1), (47, 2, 1), (45, 3, 1), (45, 2, 1), (44, 3, 1), (44, 2, 1), (43, 3, 1), (43, 2, 1), (42, 3, 1), (42, 2, 1), (3, 3, 1), (3, 2, 1), (9, 1, 0), (8, 3, 1), (8, 2, 1), (7, 3, 1), (7, 2, 1), (6, 3, 1), (6, 2, 1), (5, 3, 1), (5, 2, 1)]
def iW : List (Nat × Nat × Int32) := (117, 59, 1) :: (117, 58, 1) :: iWT
def iJ : List (Nat × Nat × Int64) := [(110, 1, 0), (110, 0, 0), (109, 1, 0), (109, 0, 0), (108, 1, 0), (108, 0, 0), (107, 1, 0), (107, 0, 0), (104, 1, 0), (104, 0, 0), (103, 1, 0), (103, 0, 0), (102, 1, 0), (102, 0, 0), (101, 1, 0), (101, 0, 0), (98, 1, 0), (98, 0, 0), (97, 1, 0), (97, 0, 0), (96, 1, 0), (96, 0, 0), (95, 1, 0), (95, 0, 0), (92, 1, 0), (92, 0, 0), (91, 1, 0), (91, 0, 0), (90, 1, 0), (90, 0, 0), (89, 1, 0), (89, 0, 0), (86, 1, 0), (86, 0, 0), (85, 1, 0), (85, 0, 0), (84, 1, 0), (84, 0, 0), (83, 1, 0), (83, 0, 0), (80, 1, 0), (80, 0, 0), (79, 1, 0), (79, 0, 0), (78, 1, 0), (78, 0, 0), (77, 1, 0), (77, 0, 0), (74, 1, 0), (74, 0, 0), (73, 1, 0), (73, 0, 0), (72, 1, 0), (72, 0, 0), (71, 1, 0), (71, 0, 0), (68, 1, 0), (68, 0, 0), (67, 1, 0), (67, 0, 0), (66, 1, 0), (66, 0, 0), (65, 1, 0), (65, 0, 0), (62, 1, 0), (62, 0, 0), (61, 1, 0), (61, 0, 0), (60, 1, 0), (60, 0, 0), (59, 1, 0), (59, 0, 0), (56, 1, 0), (56, 0, 0), (55, 1, 0), (55, 0, 0), (54, 1, 0), (54, 0, 0), (53, 1, 0), (53, 0, 0), (48, 1, 0), (48, 0, 0), (47, 1, 0), (47, 0, 0), (45, 1, 0), (45, 0, 0), (44, 1, 0), (44, 0, 0), (43, 1, 0), (43, 0, 0), (42, 1, 0), (42, 0, 0), (8, 1, 0), (8, 0, 0), (7, 1, 0), (7, 0, 0), (6, 1, 0), (6, 0, 0), (5, 1, 0), (5, 0, 0)]
def ioRT : List (Nat × Nat × Option Nat) := [(1, 13, some 113), (113, 0, some 13), (113, 11, some 118), (113, 10, some 117), (113, 8, some 116), (113, 7, some 115), (113, 6, some 114), (1, 12, some 41), (48, 9, some 107), (108, 3, some 112), (108, 2, some 111), (108, 1, some 110), (108, 0, some 109), (107, 0, some 108), (48, 8, some 101), (102, 3, some 106), (102, 2, some 105), (102, 1, some 104), (102, 0, some 103), (101, 0, some 102), (48, 7, some 95), (96, 3, some 100), (96, 2, some 99), (96, 1, some 98), (96, 0, some 97), (95, 0, some 96), (48, 6, some 89), (90, 3, some 94), (90, 2, some 93), (90, 1, some 92), (90, 0, some 91), (89, 0, some 90), (48, 5, some 83), (84, 3, some 88), (84, 2, some 87), (84, 1, some 86), (84, 0, some 85), (83, 0, some 84), (48, 4, some 77), (78, 3, some 82), (78, 2, some 81), (78, 1, some 80), (78, 0, some 79), (77, 0, some 78), (48, 3, some 71), (72, 3, some 76), (72, 2, some 75), (72, 1, some 74), (72, 0, some 73), (71, 0, some 72), (48, 2, some 65), (66, 3, some 70), (66, 2, some 69), (66, 1, some 68), (66, 0, some 67), (65, 0, some 66), (48, 1, some 59), (60, 3, some 64), (60, 2, some 63), (60, 1, some 62), (60, 0, some 61), (59, 0, some 60), (48, 0, some 53), (54, 3, some 58), (54, 2, some 57), (54, 1, some 56), (54, 0, some 55), (53, 0, some 54), (41, 1, some 13), (41, 0, some 21), (41, 10, some 52), (41, 9, some 51), (41, 6, some 50), (41, 5, some 49), (41, 4, some 48), (41, 3, some 42), (43, 3, some 47), (43, 2, some 46), (43, 1, some 45), (43, 0, some 44), (42, 0, some 43), (1, 11, some 37), (37, 9, some 40), (37, 7, some 39), (37, 0, some 38), (1, 10, some 32), (32, 7, some 36), (32, 6, some 35), (32, 1, some 34), (32, 0, some 33), (1, 9, some 21), (21, 15, some 31), (21, 14, some 30), (21, 13, some 29), (21, 11, some 28), (21, 10, some 27), (21, 9, some 26), (21, 3, some 25), (21, 2, some 24), (21, 1, some 23), (21, 0, some 22), (1, 8, some 13), (13, 6, some 20), (13, 5, some 19), (13, 4, some 18), (13, 3, some 17), (13, 2, some 16), (13, 1, some 15), (13, 0, some 14), (1, 3, some 12), (1, 2, some 3), (3, 1, some 9), (3, 0, some 4), (9, 3, some 11), (9, 2, some 10), (9, 0, none), (4, 3, some 8), (4, 2, some 7), (4, 1, some 6), (4, 0, some 5), (1, 0, some 2)]
def ioR : List (Nat × Nat × Option Nat) := (119, 89, some 170) :: (119, 86, some 169) :: (119, 84, some 168) :: (119, 83, some 167) :: (119, 82, some 166) :: (119, 81, some 165) :: (119, 80, some 164) :: (119, 79, some 163) :: (119, 75, some 162) :: (119, 74, some 161) :: (119, 73, some 160) :: (119, 72, some 159) :: (119, 71, some 158) :: (119, 67, some 157) :: (119, 66, some 156) :: (119, 65, some 155) :: (119, 62, some 154) :: (119, 61, some 153) :: (119, 57, some 152) :: (119, 56, some 151) :: (119, 51, some 150) :: (119, 49, some 149) :: (119, 47, some 148) :: (119, 46, some 147) :: (119, 45, some 146) :: (119, 43, some 145) :: (119, 40, some 144) :: (119, 39, some 143) :: (119, 38, some 142) :: (119, 37, some 141) :: (119, 36, some 140) :: (119, 34, some 139) :: (119, 33, some 138) :: (119, 31, some 137) :: (119, 30, some 136) :: (119, 29, some 135) :: (119, 28, some 134) :: (119, 26, some 133) :: (119, 23, some 132) :: (119, 22, some 131) :: (119, 21, some 130) :: (119, 20, some 129) :: (119, 19, some 128) :: (119, 18, some 127) :: (119, 17, some 126) :: (119, 12, some 125) :: (119, 11, some 124) :: (119, 10, some 123) :: (119, 7, some 122) :: (119, 1, some 121) :: (119, 0, some 120) :: ioRT
def ioWT : List (Nat × Nat × Int32) := [(112, 3, 1), (112, 2, 1), (111, 3, 1), (111, 2, 1), (110, 3, 1), (110, 2, 1), (109, 3, 1), (109, 2, 1), (106, 3, 1), (106, 2, 1), (105, 3, 1), (105, 2, 1), (104, 3, 1), (104, 2, 1), (103, 3, 1), (103, 2, 1), (100, 3, 1), (100, 2, 1), (99, 3, 1), (99, 2, 1), (98, 3, 1), (98, 2, 1), (97, 3, 1), (97, 2, 1), (94, 3, 1), (94, 2, 1), (93, 3, 1), (93, 2, 1), (92, 3, 1), (92, 2, 1), (91, 3, 1), (91, 2, 1), (88, 3, 1), (88, 2, 1), (87, 3, 1), (87, 2, 1), (86, 3, 1), (86, 2, 1), (85, 3, 1), (85, 2, 1), (82, 3, 1), (82, 2, 1), (81, 3, 1), (81, 2, 1), (80, 3, 1), (80, 2, 1), (79, 3, 1), (79, 2, 1), (76, 3, 1), (76, 2, 1), (75, 3, 1), (75, 2, 1), (74, 3, 1), (74, 2, 1), (73, 3, 1), (73, 2, 1), (70, 3, 1), (70, 2, 1), (69, 3, 1), (69, 2, 1), (68, 3, 1), (68, 2, 1), (67, 3, 1), (67, 2, 1), (64, 3, 1), (64, 2, 1), (63, 3, 1), (63, 2, 1), (62, 3, 1), (62, 2, 1), (61, 3, 1), (61, 2, 1), (58, 3, 1), (58, 2, 1), (57, 3, 1), (57, 2, 1), (56, 3, 1), (56, 2, 1), (55, 3, 1), (55, 2, 1), (50, 3, 1), (50, 2, 1), (49, 3, 1), (49, 2, 1), (47, 3, 1), (47, 2, 1), (46, 3, 1), (46, 2, 1), (45, 3, 1), (45, 2, 1), (44, 3, 1), (44, 2, 1), (3, 3, 1), (3, 2, 1), (9, 1, 0), (8, 3, 1), (8, 2, 1), (7, 3, 1), (7, 2, 1), (6, 3, 1), (6, 2, 1), (5, 3, 1), (5, 2, 1)]
def ioW : List (Nat × Nat × Int32) := (119, 59, 1) :: (119, 58, 1) :: ioWT
def ioJ : List (Nat × Nat × Int64) := [(112, 1, 0), (112, 0, 0), (111, 1, 0), (111, 0, 0), (110, 1, 0), (110, 0, 0), (109, 1, 0), (109, 0, 0), (106, 1, 0), (106, 0, 0), (105, 1, 0), (105, 0, 0), (104, 1, 0), (104, 0, 0), (103, 1, 0), (103, 0, 0), (100, 1, 0), (100, 0, 0), (99, 1, 0), (99, 0, 0), (98, 1, 0), (98, 0, 0), (97, 1, 0), (97, 0, 0), (94, 1, 0), (94, 0, 0), (93, 1, 0), (93, 0, 0), (92, 1, 0), (92, 0, 0), (91, 1, 0), (91, 0, 0), (88, 1, 0), (88, 0, 0), (87, 1, 0), (87, 0, 0), (86, 1, 0), (86, 0, 0), (85, 1, 0), (85, 0, 0), (82, 1, 0), (82, 0, 0), (81, 1, 0), (81, 0, 0), (80, 1, 0), (80, 0, 0), (79, 1, 0), (79, 0, 0), (76, 1, 0), (76, 0, 0), (75, 1, 0), (75, 0, 0), (74, 1, 0), (74, 0, 0), (73, 1, 0), (73, 0, 0), (70, 1, 0), (70, 0, 0), (69, 1, 0), (69, 0, 0), (68, 1, 0), (68, 0, 0), (67, 1, 0), (67, 0, 0), (64, 1, 0), (64, 0, 0), (63, 1, 0), (63, 0, 0), (62, 1, 0), (62, 0, 0), (61, 1, 0), (61, 0, 0), (58, 1, 0), (58, 0, 0), (57, 1, 0), (57, 0, 0), (56, 1, 0), (56, 0, 0), (55, 1, 0), (55, 0, 0), (50, 1, 0), (50, 0, 0), (49, 1, 0), (49, 0, 0), (47, 1, 0), (47, 0, 0), (46, 1, 0), (46, 0, 0), (45, 1, 0), (45, 0, 0), (44, 1, 0), (44, 0, 0), (8, 1, 0), (8, 0, 0), (7, 1, 0), (7, 0, 0), (6, 1, 0), (6, 0, 0), (5, 1, 0), (5, 0, 0)]
def i_p (a : Nat) : Nat := if a < 19 then a else if a < 169 then a + 2 else if a < 171 then a - 150 else a
def i_r (a : Nat) : Nat := if a < 19 then a else if a < 21 then a + 150 else if a < 171 then a - 2 else a
theorem i_rp (a : Nat) : i_r (i_p a) = a := by
  unfold i_r i_p
  by_cases h1 : a < 19
  · rw [if_pos h1, if_pos h1]
  · rw [if_neg h1]
    by_cases h2 : a < 169
    · rw [if_pos h2, if_neg (by omega), if_neg (by omega), if_pos (by omega)]; omega
    · rw [if_neg h2]
      by_cases h3 : a < 171
      · rw [if_pos h3, if_neg (by omega), if_pos (by omega)]; omega
      · rw [if_neg h3, if_neg h1, if_neg (by omega), if_neg h3]
theorem i_pr (a : Nat) : i_p (i_r a) = a := by
  unfold i_r i_p
  by_cases h1 : a < 19
  · rw [if_pos h1, if_pos h1]
  · rw [if_neg h1]
    by_cases h2 : a < 21
    · rw [if_pos h2, if_neg (by omega), if_neg (by omega), if_pos (by omega)]; omega
    · rw [if_neg h2]
      by_cases h3 : a < 171
      · rw [if_pos h3, if_neg (by omega), if_pos (by omega)]; omega
      · rw [if_neg h3, if_neg h1, if_neg (by omega), if_neg h3]
theorem i_p3 (a : Nat) (h : 170 < a) : i_p a = a := by
  unfold i_p
  rw [if_neg (by omega), if_neg (by omega), if_neg (by omega)]
theorem i_r3 (a : Nat) (h : 170 < a) : i_r a = a := by
  unfold i_r
  rw [if_neg (by omega), if_neg (by omega), if_neg (by omega)]
theorem i_eq {a b : Nat} : i_r a = b ↔ a = i_p b := ⟨fun h => by rw [← h, i_pr], fun h => by rw [h, i_rp]⟩
theorem i_pR : ∀ (rl : List (Nat × Nat × Option Nat)) (a k : Nat), (hhR rl (i_r a) k).map i_p = hhR (rl.map (fun e => (i_p e.1, e.2.1, e.2.2.map i_p))) a k
  | [], _, _ => rfl
  | e :: rl, a, k => by
    have ih := i_pR rl a k
    show (ju (hhR rl) e.1 e.2.1 e.2.2 (i_r a) k).map i_p = ju (hhR (rl.map (fun e => (i_p e.1, e.2.1, e.2.2.map i_p)))) (i_p e.1) e.2.1 (e.2.2.map i_p) a k
    by_cases h : i_r a = e.1
    · have h' := i_eq.mp h
      by_cases hk : k = e.2.1
      · rw [h, h', hk, ju_at, ju_at]
      · rw [ju_ne (Or.inr hk), ju_ne (Or.inr hk)]
        exact ih
    · have h' : a ≠ i_p e.1 := fun x => h (i_eq.mpr x)
      rw [ju_ne (Or.inl h), ju_ne (Or.inl h')]
      exact ih
theorem i_pI (xs : Nat → Int32) : ∀ (wl : List (Nat × Nat × Int32)) (a k : Nat), hhI xs wl (i_r a) k = hhI xs (wl.map (fun e => (i_p e.1, e.2))) a k
  | [], a, k => by
    show (if i_r a = 0 then xs else fun _ => 0) k = (if a = 0 then xs else fun _ => 0) k
    by_cases h : a = 0
    · rw [if_pos h, if_pos (i_eq.mpr h)]
    · rw [if_neg h, if_neg (fun x => h (i_eq.mp x))]
  | e :: wl, a, k => by
    have ih := i_pI xs wl a k
    show ju (hhI xs wl) e.1 e.2.1 e.2.2 (i_r a) k = ju (hhI xs (wl.map (fun e => (i_p e.1, e.2)))) (i_p e.1) e.2.1 e.2.2 a k
    by_cases h : i_r a = e.1
    · have h' := i_eq.mp h
      by_cases hk : k = e.2.1
      · rw [h, h', hk, ju_at, ju_at]
      · rw [ju_ne (Or.inr hk), ju_ne (Or.inr hk)]
        exact ih
    · have h' : a ≠ i_p e.1 := fun x => h (i_eq.mpr x)
      rw [ju_ne (Or.inl h), ju_ne (Or.inl h')]
      exact ih
theorem i_pJ : ∀ (wl : List (Nat × Nat × Int64)) (a k : Nat), hhJ wl (i_r a) k = hhJ (wl.map (fun e => (i_p e.1, e.2))) a k
  | [], _, _ => rfl
  | e :: wl, a, k => by
    have ih := i_pJ wl a k
    show ju (hhJ wl) e.1 e.2.1 e.2.2 (i_r a) k = ju (hhJ (wl.map (fun e => (i_p e.1, e.2)))) (i_p e.1) e.2.1 e.2.2 a k
    by_cases h : i_r a = e.1
    · have h' := i_eq.mp h
      by_cases hk : k = e.2.1
      · rw [h, h', hk, ju_at, ju_at]
      · rw [ju_ne (Or.inr hk), ju_ne (Or.inr hk)]
        exact ih
    · have h' : a ≠ i_p e.1 := fun x => h (i_eq.mpr x)
      rw [ju_ne (Or.inl h), ju_ne (Or.inl h')]
      exact ih
theorem i_oR : iR.map (fun e => (i_p e.1, e.2.1, e.2.2.map i_p)) = ioR := by decide +kernel
theorem i_oW : iW.map (fun e => (i_p e.1, e.2)) = ioW := by decide +kernel
theorem i_oJ : iJ.map (fun e => (i_p e.1, e.2)) = ioJ := by decide +kernel
theorem i_kinds : ∀ a, a < 171 → jnth jk0s (i_r a) 0 = jnth jk0o a 0 := by decide +kernel
theorem i_lens : ∀ a, a < 171 → jnth jl0s (i_r a) 0 = jnth jl0o a 0 := by decide +kernel
theorem i_rlt {a : Nat} (h : a < 171) : i_r a < 171 := by
  unfold i_r
  by_cases h1 : a < 19
  · rw [if_pos h1]; exact h
  · rw [if_neg h1]
    by_cases h2 : a < 21
    · rw [if_pos h2]; omega
    · rw [if_neg h2, if_pos h]; omega
def iK (a : Nat) : Nat := if a < 171 then jnth jk0s a 0 else 0
def iN (L a : Nat) : Nat := if a = 0 then L else if a < 171 then jnth jl0s a 0 else 0
theorem i_refs : ∀ a, a < 171 → ∀ k, k < (jnth jr0s a []).length → jr0 a k = 0 ∨ hhR iR a k = some (jr0 a k) := by decide +kernel
theorem i_ref {a k v : Nat} (h : jr0 a k = v + 1) : hhR iR a k = some (v + 1) := by
  have h0 : jr0 a k ≠ 0 := by omega
  by_cases ha : a < 171
  · by_cases hk : k < (jnth jr0s a []).length
    · rcases i_refs a ha k hk with e | e
      · exact absurd e h0
      · rw [e, h]
    · exact absurd (show jr0 a k = 0 from jnth_out _ _ _ (Nat.le_of_not_lt hk)) h0
  · have e : jnth jr0s a [] = [] := jnth_out _ _ _ (Nat.le_trans (by decide) (Nat.le_of_not_lt ha))
    have : jr0 a k = 0 := by unfold jr0; rw [e]; rfl
    exact absurd this h0
abbrev i_g (L : Nat) : jG := (iK, iN L, hhR iR, 170, 109773)
theorem i_jGs (L : Nat) : jGs L (i_g L) = i_g L := by
  have e1 : (fun a => if a < 171 then jnth jk0s a 0 else iK a) = iK := by
    funext a
    by_cases h : a < 171
    · rw [if_pos h]; unfold iK; rw [if_pos h]
    · rw [if_neg h]
  have e2 : (fun a => if a = 0 then L else if a < 171 then jnth jl0s a 0 else iN L a) = iN L := by
    funext a
    unfold iN
    by_cases h0 : a = 0
    · rw [if_pos h0, if_pos h0]
    · rw [if_neg h0, if_neg h0]
      by_cases h : a < 171
      · rw [if_pos h, if_pos h]
      · rw [if_neg h, if_neg h]
  have e3 : (fun a k => match jr0 a k with
    | 0 => hhR iR a k
    | v + 1 => some (v + 1)) = hhR iR := by
    funext a k
    split
    · rfl
    · rename_i v h
      exact (i_ref h).symm
  show ((fun a => if a < 171 then jnth jk0s a 0 else iK a), (fun a => if a = 0 then L else if a < 171 then jnth jl0s a 0 else iN L a), (fun a k => match jr0 a k with
    | 0 => hhR iR a k
    | v + 1 => some (v + 1)), 170, 109773) = _
  rw [e1, e2, e3]
/-- the heap behind both constructors, as the run has it -/
theorem i_real (L : Nat) (xs : Nat → Int32) : pP i_p i_r (i_g L, hhI xs iW, hhJ iJ) = hhS L xs 170 109773 ioR ioW ioJ := by
  have e1 : (fun a => iK (i_r a)) = hhK 170 := by
    funext a
    unfold iK hhK
    by_cases h : a < 171
    · rw [if_pos (i_rlt h), if_pos (by omega), i_kinds a h]
    · rw [i_r3 a (by omega), if_neg h, if_neg (by omega)]
  have e2 : (fun a => iN L (i_r a)) = hhN L 170 := by
    funext a
    unfold iN hhN
    by_cases h0 : a = 0
    · rw [if_pos (i_eq.mpr h0), if_pos h0]
    · rw [if_neg (fun x => h0 (i_eq.mp x)), if_neg h0]
      by_cases h : a < 171
      · rw [if_pos (i_rlt h), if_pos (by omega), i_lens a h]
      · rw [i_r3 a (by omega), if_neg h, if_neg (by omega)]
  have e3 : (fun a k => (hhR iR (i_r a) k).map i_p) = hhR ioR := by
    funext a k
    rw [i_pR, i_oR]
  have e4 : (fun a => hhI xs iW (i_r a)) = hhI xs ioW := by
    funext a k
    rw [i_pI, i_oW]
  have e5 : (fun a => hhJ iJ (i_r a)) = hhJ ioJ := by
    funext a k
    rw [i_pJ, i_oJ]
  show ((fun a => iK (i_r a), fun a => iN L (i_r a), fun a k => (hhR iR (i_r a) k).map i_p, 170, 109773), (fun a => hhI xs iW (i_r a)), fun a => hhJ iJ (i_r a)) = _
  rw [e1, e2, e3, e4, e5]
section ST
variable {L : Nat} {xs : Nat → Int32}
theorem i_st (g : jG) (I : Nat → Nat → Int32) (J : Nat → Nat → Int64) {k : Nat} (hk : k < 4) : jval 39 250 436 [.ref 117, .int (nI k)] [] (jGs L g, I, J) = jval 39 250 436 [.ref 117, .int (nI (k + 1))] [] (jGs L g, mAll I k, J) := by
  rw [eg_TextValuesModel_init_436, jif_f (show ¬ (4 : Int32) ≤ nI k from nI_ge (b := 4) (by omega) (by omega)), if_pos (show (jGs L g).1 117 = 13 from rfl), s_laysAll 38 L g I J (k := k) (by omega), jcV_some, eg_TextValuesModel_init_446, nI_1]
def i_I (xs : Nat → Int32) : Nat → Nat → Int32 := mAll (mAll (mAll (mAll (hhI xs iW) 0) 1) 2) 3
theorem i_lays (g : jG) (I : Nat → Nat → Int32) (J : Nat → Nat → Int64) : jval 39 250 436 [.ref 117, .int (0 : Int32)] [] (jGs L g, I, J) = some (none, (jGs L g, mAll (mAll (mAll (mAll I 0) 1) 2) 3, J)) := by
  rw [show Value.int (0 : Int32) = Value.int (nI 0) from rfl, i_st g I J (by omega), i_st g _ J (by omega), i_st g _ J (by omega), i_st g _ J (by omega), eg_TextValuesModel_init_436, jif_t (show (4 : Int32) ≤ nI 4 by decide)]
theorem i_0 : jS0 L xs = hhS L xs 0 0 [] [] [] := by
  have e1 : (fun a => if a = 0 then 20 else 0) = hhK 0 := by
    funext a
    unfold hhK
    by_cases h : a = 0
    · rw [if_pos h, if_pos (by omega), h]; rfl
    · rw [if_neg h, if_neg (by omega)]
  have e2 : (fun a => if a = 0 then L else 0) = hhN L 0 := by
    funext a
    unfold hhN
    by_cases h : a = 0
    · rw [if_pos h, if_pos h]
    · rw [if_neg h, if_neg h, if_neg (by omega)]
  show (((fun a => if a = 0 then 20 else 0), (fun a => if a = 0 then L else 0), (fun _ _ => none), 0, 0), (fun a => if a = 0 then xs else fun _ => 0), (fun _ _ => 0)) = _
  rw [e1, e2]
  rfl
theorem i_run : jval 40 277 0 [.ref 0, jjunk, jjunk, jjunk] [] (jS0 L xs) = jval 40 277 18 [.ref 0, .ref 1, .ref 119, .int (nI 0)] [] (pP i_p i_r (jGs L (i_g L), i_I xs, hhJ iJ)) := by
  have h : At L xs (jval 40 277 0 [.ref 0, jjunk, jjunk, jjunk] [] (jS0 L xs)) 40 277 0 [.ref 0, jjunk, jjunk, jjunk] [] 0 0 [] [] [] := ⟨by rw [i_0], hhB_0⟩
  replace h := st_no (n' := 1) (q' := 14) (fun g I J => eg_TextValuesLaw_law_0 40 g I J) rfl rfl rfl rfl (by omega) (by omega) h
  replace h := st_cl (fun g I J => eg_TextValuesLaw_law_3 40 g I J 0 1) h (fun _ => k_TextValues)
  replace h := st_no (n' := 119) (q' := 4973) (fun g I J => eg_TextValuesLaw_law_7 40 g I J 0 1) rfl rfl rfl rfl (by omega) (by omega) h
  obtain ⟨h, hb⟩ := h
  obtain ⟨m, -⟩ := k_Model hb
  have z : jcall 40 250 [.ref 119] (hhS L xs 119 4973 ioRT ioWT ioJ) = some (none, pP i_p i_r (jGs L (i_g L), i_I xs, hhJ iJ)) := by
    refine Eq.trans m ?_
    show jval 39 250 436 [.ref 119, .int (0 : Int32)] [] (hhS L xs 170 109773 ioR ioW ioJ) = _
    have e := i_lays (L := L) (i_g L) (hhI xs iW) (hhJ iJ)
    have e2 := pp_val i_rp i_pr (N := 170) i_p3 (Nat.le_refl 170) e
    rw [← i_real L xs]
    rw [i_jGs L] at e2 ⊢
    exact e2
  refine Eq.trans h ?_
  show jval 40 277 11 [.ref 0, .ref 1, jjunk, jjunk] [.ref 119] (hhS L xs 119 4973 ioRT ioWT ioJ) = _
  rw [eg_TextValuesLaw_law_11, z, jcV_some]
  exact (eg_TextValuesLaw_law_15 ..).trans rfl
theorem iW_le : ∀ r ∈ iW, r.1 ≤ 117 := by decide
theorem i_hi {a : Nat} (h : 118 ≤ a) : hhI xs iW a = fun _ => 0 := hhI_out (by omega) (fun r hr => by have := iW_le r hr; omega)
theorem i_lo {a : Nat} (h : 0 < a) (h2 : iW.all (fun r => !(r.1 == a)) = true) : hhI xs iW a = fun _ => 0 := hhI_out h (fun r hr e => by
  have := List.all_eq_true.mp h2 r hr
  rw [e] at this
  simp at this)
theorem i_117 (j : Nat) : hhI xs iW 117 j = if j = 59 ∨ j = 58 then 1 else 0 := by
  have e0 : hhI xs iWT 117 = fun _ => 0 := hhI_out (by omega) (fun r hr => by
    have : ∀ r ∈ iWT, r.1 ≠ 117 := by decide
    exact this r hr)
  show ju (ju (hhI xs iWT) 117 58 1) 117 59 1 117 j = _
  by_cases e : j = 59
  · rw [e, zu_at, if_pos (by omega)]
  · rw [zu_k e]
    by_cases e2 : j = 58
    · rw [e2, zu_at, if_pos (by omega)]
    · rw [zu_k e2, if_neg (by omega), e0]
theorem i_n {a : Nat} (h : a ≠ 119) : i_I xs a = hhI xs iW a := by
  unfold i_I
  rw [mAll_n h, mAll_n h, mAll_n h, mAll_n h]
theorem iI_hi {a : Nat} (h : 118 ≤ a) (h2 : a ≠ 119) (j : Nat) : i_I xs a j = 0 := by rw [i_n h2, i_hi h]
theorem iI_lo {a : Nat} (h : 0 < a) (h2 : iW.all (fun r => !(r.1 == a)) = true) (h3 : a ≠ 119) (j : Nat) : i_I xs a j = 0 := by rw [i_n h3, i_lo h h2]
theorem iI_0 : i_I xs 0 = xs := by
  rw [i_n (by omega)]
  have gen : ∀ wl : List (Nat × Nat × Int32), (∀ r ∈ wl, r.1 ≠ 0) → hhI xs wl 0 = xs := by
    intro wl
    induction wl with
    | nil =>
      intro _
      show (if (0 : Nat) = 0 then xs else fun _ => 0) = xs
      exact if_pos rfl
    | cons e r ih =>
      intro h
      show ju (hhI xs r) e.1 e.2.1 e.2.2 0 = _
      rw [ju_n (by have := h e List.mem_cons_self; omega)]
      exact ih (fun x hx => h x (List.mem_cons_of_mem _ hx))
  exact gen iW (by decide)
theorem iI_117 {j : Nat} (h : j ≠ 58) (h2 : j ≠ 59) : i_I xs 117 j = 0 := by rw [i_n (by omega), i_117, if_neg (by omega)]
theorem i_mR {i : Nat} (hi : i < 4) : mR (i_I xs) i kAll := by
  have up : ∀ {I : Nat → Nat → Int32} {k i : Nat}, i ≠ k → mR I i kAll → mR (mAll I k) i kAll := fun {I k i} hne h => mR_cg h (fun c hc => mAll_out (by omega))
  have : i = 0 ∨ i = 1 ∨ i = 2 ∨ i = 3 := by omega
  unfold i_I
  rcases this with e | e | e | e <;> subst e
  · exact up (by omega) (up (by omega) (up (by omega) (mR_all (by omega))))
  · exact up (by omega) (up (by omega) (mR_all (by omega)))
  · exact up (by omega) (mR_all (by omega))
  · exact mR_all (by omega)
theorem i_cR {a : Nat} (hk : gK L (i_g L) a = 2) (ha : a ≠ 119) (h2 : hhI xs iW a 2 = 1) (h3 : hhI xs iW a 3 = 1) (j0 : hhJ iJ a 0 = 0) (j1 : hhJ iJ a 1 = 0) : cR L (i_g L) (i_I xs) (hhJ iJ) a kAll := by
  refine ⟨hk, kAll_V, ?_, ?_, ?_, ?_⟩
  · rw [j0, kPk_all]; rfl
  · rw [j1, kPk_all]; rfl
  · rw [i_n ha, h2]; rfl
  · rw [i_n ha, h3]; rfl
/-- the first setup; what stands at the start -/
def i_z : zS := (fun _ => kAll, fun _ => 0, 0, 1, 1)
def i_T : zT := (0, fun _ => 0, fun _ => 0, i_z, 0, fun _ => i_z, fun _ => [], 0)
theorem i_P : pPrg (fun _ => 0) 0 = (true, 0, fun _ _ => 0) := by
  have h2 : pSk (fun _ => 0) 0 0 = 0 := rfl
  have h1 : pCh (fun _ => 0) 0 0 = 255 := by
    unfold pCh
    rw [h2, if_neg (by omega)]
  have h3 : pBlk (fun _ => 0) 0 (0 + 1) 0 0 (fun _ _ => 0) = (true, 0, fun _ _ => 0) := by
    unfold pBlk
    rw [h1, if_pos (by decide), h2]
  unfold pPrg
  rw [h3, pGo_t, if_pos h1]
theorem i_q : zq i_z = fun _ _ => 0 := by
  show (pPrg (fun _ => 0) 0).2.2 = _
  rw [i_P]
theorem i_W : zWf i_T := by
  refine ⟨⟨Nat.zero_le _, fun i hi => absurd hi (Nat.not_lt_zero i)⟩, ⟨fun i _ => ⟨kAll_V, sm_all⟩, ⟨Nat.zero_le _, fun i hi => absurd hi (Nat.not_lt_zero i), ?_⟩, ⟨by decide, by decide, ?_, ?_⟩, 0, i_g 0, fun _ _ => 0, 0, 0, none, ?_⟩, Nat.zero_le _, fun i hi => absurd hi (Nat.not_lt_zero i), Nat.zero_le _⟩
  · show (pPrg (fun _ => 0) 0).1 = true
    rw [i_P]
  · show pBd 120 (zq i_z)
    rw [i_q]
    exact ⟨Nat.zero_le _, Nat.zero_le _, Nat.zero_le _, Nat.zero_le _⟩
  · show zq i_z 35 8 ≤ 120
    rw [i_q]
    exact Nat.zero_le _
  · show nd 0 (zq i_z) (i_g 0) (fun _ _ => 0) 0 (0 + 1) 0 0 none 0 (zq i_z 117 35)
    rw [i_q]
    exact Or.inl ⟨rfl, rfl⟩
theorem i_uT {lr tr : Nat} (h : ∀ j, i_I xs lr j = 0) : uT (fun _ => []) lr tr (i_I xs) := fun v _ => ⟨Nat.zero_le _, kW_nil, by rw [h]; rfl, fun x hx => absurd hx (Nat.not_lt_zero x)⟩
theorem i_rI : rI i_T (i_I xs) := by
  have z : ∀ j, j ≠ 58 → j ≠ 59 → i_I xs 117 j = nI 0 := fun j h h2 => by rw [iI_117 h h2]; rfl
  refine ⟨⟨z 50 (by omega) (by omega), fun i hi => absurd hi (Nat.not_lt_zero i)⟩, fun j _ => iI_hi (by omega) (by omega) j, ?_, ⟨z 87 (by omega) (by omega), fun i hi => absurd hi (Nat.not_lt_zero i)⟩, Or.inl (iI_117 (by omega) (by omega)), ⟨z 88 (by omega) (by omega), fun i hi => absurd hi (Nat.not_lt_zero i)⟩, i_uT (fun j => iI_hi (by omega) (by omega) j), z 78 (by omega) (by omega)⟩
  show rB (zq i_z) (fun _ => kAll) 1 1 (i_I xs)
  rw [i_q]
  refine ⟨⟨⟨z _ (by omega) (by omega), z _ (by omega) (by omega), z _ (by omega) (by omega), z _ (by omega) (by omega), z _ (by omega) (by omega)⟩, fun k hk => absurd hk (Nat.not_lt_zero k), fun k hk => absurd hk (Nat.not_lt_zero k), fun k hk => absurd hk (Nat.not_lt_zero k), fun k hk => absurd hk (Nat.not_lt_zero k)⟩, fun i hi => ⟨i_mR hi, kAll_V⟩, fun y _ => iI_hi (by omega) (by omega) y, ?_, ?_, by decide, by decide, ⟨Nat.zero_le _, Nat.zero_le _, Nat.zero_le _, Nat.zero_le _⟩⟩
  · rw [i_n (by omega), i_117, if_pos (by omega)]; rfl
  · rw [i_n (by omega), i_117, if_pos (by omega)]; rfl
theorem i_mk {a : Nat} (h : mkO (i_g L) a) : 19 ≤ a ∧ a ≤ 29 := by
  have e1 : (i_g L).2.2.1 19 9 = some 24 := rfl
  have e2 : (i_g L).2.2.1 19 10 = some 25 := rfl
  have e3 : (i_g L).2.2.1 19 11 = some 26 := rfl
  have e4 : (i_g L).2.2.1 19 13 = some 27 := rfl
  have e5 : (i_g L).2.2.1 19 14 = some 28 := rfl
  unfold mkO at h
  rw [e1, e2, e3, e4, e5] at h
  simp only [Option.some.injEq] at h
  omega
theorem i_c {a : Nat} (h : a ≤ 170) : a ≤ (i_g L).2.2.2.1 := h
theorem i_su : cSu L (zq i_z) (fun _ => kAll) 1 1 3 50 1 (i_g L) (i_I xs) (hhJ iJ) := by
  rw [i_q]
  refine ⟨Or.inl ⟨by omega, by omega⟩, i_c (by omega), rfl, ?_, ?_, ⟨4, rfl, Or.inl ⟨by omega, by omega⟩, i_c (by omega), rfl, rfl, fun i hi => ?_⟩, 9, rfl, ⟨Or.inl ⟨by omega, by omega⟩, i_c (by omega), rfl, ?_, ⟨10, rfl, Or.inl ⟨by omega, by omega⟩, i_c (by omega), rfl, rfl, fun j hj => absurd hj (Nat.not_lt_zero j)⟩, ⟨11, rfl, Or.inl ⟨by omega, by omega⟩, i_c (by omega), rfl, rfl, fun j hj => absurd hj (Nat.not_lt_zero j)⟩, Or.inl ⟨rfl, rfl⟩⟩, fun x hx => ?_⟩
  · rw [i_n (by omega)]; rfl
  · rw [i_n (by omega)]; rfl
  · have : i = 0 ∨ i = 1 ∨ i = 2 ∨ i = 3 := by omega
    rcases this with e | e | e | e <;> subst e
    · exact ⟨5, rfl, Or.inl ⟨by omega, by omega⟩, i_c (by omega), i_cR rfl (by omega) rfl rfl rfl rfl⟩
    · exact ⟨6, rfl, Or.inl ⟨by omega, by omega⟩, i_c (by omega), i_cR rfl (by omega) rfl rfl rfl rfl⟩
    · exact ⟨7, rfl, Or.inl ⟨by omega, by omega⟩, i_c (by omega), i_cR rfl (by omega) rfl rfl rfl rfl⟩
    · exact ⟨8, rfl, Or.inl ⟨by omega, by omega⟩, i_c (by omega), i_cR rfl (by omega) rfl rfl rfl rfl⟩
  · rw [i_n (by omega)]; rfl
  · have e1 : gR L (i_g L) 9 2 = some 10 := rfl
    have e2 : gR L (i_g L) 9 3 = some 11 := rfl
    rw [e1, e2] at hx
    simp only [Option.some.injEq] at hx
    refine ⟨fun h => ?_, by omega⟩
    have := i_mk h
    omega
theorem i_cI : cI L i_T 3 50 (fun _ => 0) 210 403533 (i_g L) (i_I xs) (hhJ iJ) := by
  refine ⟨⟨iI_lo (by omega) (by decide) (by omega) _, fun i hi => absurd hi (Nat.not_lt_zero i)⟩, ⟨iI_lo (by omega) (by decide) (by omega) _, iI_lo (by omega) (by decide) (by omega) _, iI_lo (by omega) (by decide) (by omega) _⟩, ⟨⟨?_, fun a h1 h2 h3 => ?_⟩, rfl, i_c (by omega), rfl, fun h => ?_, Or.inl rfl, show 0 ≤ 12000 from Nat.zero_le _⟩, ⟨rfl, i_su, fun h => ?_, fun a h => ?_⟩, ⟨iI_lo (by omega) (by decide) (by omega) _, fun i hi => absurd hi (Nat.not_lt_zero i)⟩, i_uT (fun j => iI_lo (by omega) (by decide) (by omega) j), iI_lo (by omega) (by decide) (by omega) _⟩
  · refine ⟨24, 25, 26, 27, 28, 6, 0, 0, ⟨rfl, rfl, rfl, rfl, rfl, rfl, rfl, rfl, rfl, rfl, rfl, rfl, rfl, rfl, rfl, by decide, by decide, by decide, by decide, i_c (by omega), i_c (by omega), i_c (by omega), i_c (by omega), i_c (by omega)⟩, by decide, by decide, ?_, ?_, by decide, fun x _ => ⟨0, Nat.le_refl _, ?_⟩, i_c (by omega), rfl, rfl, by decide, by decide⟩
    · exact iI_lo (by omega) (by decide) (by omega) _
    · exact iI_lo (by omega) (by decide) (by omega) _
    · exact iI_lo (by omega) (by decide) (by omega) _
  · have := i_mk h3
    omega
  · have := i_mk h
    omega
  · have e : (i_g L).2.2.1 39 2 = none := rfl
    rw [e] at h
    cases h
  · have e : (i_g L).2.2.1 39 2 = none := rfl
    rw [e] at h
    cases h
end ST
theorem jgoal : jGoal := by
  intro L xs hL
  have hl : lI L xs 210 403533 (i_g L) (i_I xs) (hhJ iJ) := ⟨i_T, 3, 50, fun _ => 0, 210, 403533, i_cI, i_rI, i_W, iI_0, Nat.le_refl _, Nat.le_refl _⟩
  obtain ⟨S', h1, h2, h3⟩ := l_loop hL 512 0 210 403533 (i_g L) (i_I xs) (hhJ iJ) (by omega) (by omega) (by omega) (by omega) hl
  exact ⟨pP i_p i_r S', (i_run (L := L) (xs := xs)).trans (pp_val i_rp i_pr (N := 170) i_p3 (Nat.le_refl 170) h1), h2, h3⟩
