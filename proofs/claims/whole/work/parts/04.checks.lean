/-! ===== the table is right: what the machine decodes and links at each place ===== -/
/-- by method: where its code, its class, its kind, its choice stand in lw_tbl; 1 if it is static -/
def am_hm : List (Nat × Nat × Nat × Nat × Nat) := [(63, 48, 62, 0, 0), (75, 49, 74, 0, 0), (92, 50, 91, 0, 0), (107, 51, 106, 0, 0), (133, 52, 132, 0, 0), (153, 53, 152, 0, 0), (188, 54, 187, 0, 1), (235, 48, 233, 234, 0), (239, 48, 237, 238, 0), (243, 48, 242, 0, 0), (247, 56, 246, 0, 0), (265, 48, 263, 264, 0), (268, 48, 267, 0, 1), (272, 48, 270, 271, 0), (276, 48, 274, 275, 0), (280, 48, 278, 279, 0), (284, 48, 283, 1, 0), (288, 56, 286, 287, 0), (291, 57, 290, 0, 1), (295, 56, 293, 294, 0), (298, 57, 297, 0, 1), (302, 48, 300, 301, 0), (306, 56, 304, 305, 0), (310, 48, 309, 2, 0), (314, 48, 312, 313, 0), (318, 56, 316, 317, 0), (322, 48, 320, 321, 0), (326, 56, 324, 325, 0), (331, 48, 329, 330, 0), (335, 56, 333, 334, 0), (339, 48, 337, 338, 0), (343, 48, 342, 3, 0), (347, 50, 345, 346, 0), (352, 48, 350, 351, 0), (356, 50, 354, 355, 0), (360, 48, 358, 359, 0), (364, 48, 362, 363, 0), (368, 50, 366, 367, 0), (375, 48, 373, 374, 0), (379, 48, 378, 4, 0), (383, 48, 382, 5, 0), (387, 48, 386, 6, 0), (391, 48, 390, 7, 0), (395, 48, 394, 8, 0), (399, 53, 397, 398, 0), (402, 54, 401, 0, 1), (406, 53, 404, 405, 0), (410, 53, 408, 409, 0), (414, 53, 413, 9, 0), (419, 49, 417, 418, 0), (422, 57, 421, 0, 1), (425, 49, 424, 0, 1), (429, 48, 427, 428, 0), (433, 53, 431, 432, 0), (437, 53, 436, 10, 0), (441, 48, 439, 440, 0), (445, 48, 444, 11, 0), (449, 53, 447, 448, 0), (453, 53, 451, 452, 0), (457, 48, 455, 456, 0), (461, 48, 460, 12, 0), (465, 48, 463, 464, 0), (469, 48, 467, 468, 0), (473, 48, 472, 13, 0), (477, 51, 475, 476, 0), (482, 51, 481, 14, 0), (485, 57, 484, 0, 1), (491, 48, 490, 15, 0), (495, 48, 493, 494, 0), (499, 48, 498, 16, 0), (503, 48, 502, 17, 0), (507, 48, 505, 506, 0), (511, 48, 509, 510, 0), (515, 48, 514, 18, 0), (519, 48, 518, 19, 0), (523, 48, 521, 522, 0), (526, 48, 525, 0, 1), (529, 48, 528, 0, 1), (532, 48, 531, 0, 1), (536, 48, 535, 20, 0), (540, 52, 538, 539, 0), (545, 52, 543, 544, 0), (548, 57, 547, 0, 1), (553, 52, 551, 552, 0), (557, 48, 555, 556, 0), (561, 52, 559, 560, 0), (565, 48, 563, 564, 0), (568, 48, 567, 0, 1), (572, 48, 571, 21, 0), (576, 48, 575, 22, 0), (581, 48, 579, 580, 0), (586, 48, 584, 585, 0), (590, 48, 588, 589, 0), (594, 48, 592, 593, 0), (598, 48, 597, 23, 0), (602, 48, 601, 24, 0), (606, 48, 604, 605, 0), (610, 48, 608, 609, 0), (614, 48, 612, 613, 0), (619, 56, 617, 618, 0), (626, 50, 624, 625, 0), (632, 55, 631, 0, 0), (725, 55, 723, 724, 0), (728, 55, 727, 0, 1), (732, 55, 730, 731, 0), (736, 55, 735, 25, 0), (740, 55, 738, 739, 0), (743, 55, 742, 0, 1), (747, 55, 745, 746, 0), (751, 55, 749, 750, 0), (755, 55, 753, 754, 0), (759, 55, 758, 26, 0), (763, 55, 762, 27, 0), (767, 55, 766, 28, 0), (771, 55, 769, 770, 0), (775, 55, 774, 29, 0), (779, 55, 777, 778, 0), (783, 55, 781, 782, 0), (787, 55, 785, 786, 0), (791, 55, 789, 790, 0), (794, 55, 793, 0, 1), (798, 55, 796, 797, 0), (802, 55, 801, 30, 0), (806, 55, 804, 805, 0), (810, 55, 808, 809, 0), (814, 55, 812, 813, 0), (818, 55, 817, 31, 0), (822, 55, 821, 32, 0), (827, 55, 826, 33, 0), (831, 55, 830, 34, 0), (835, 55, 834, 35, 0), (840, 55, 839, 36, 0), (844, 55, 843, 37, 0), (848, 55, 846, 847, 0), (852, 55, 851, 38, 0), (856, 55, 854, 855, 0), (860, 55, 859, 39, 0), (864, 55, 863, 40, 0), (868, 55, 866, 867, 0), (872, 55, 871, 41, 0), (876, 55, 875, 42, 0), (881, 55, 879, 880, 0), (885, 55, 883, 884, 0), (889, 55, 888, 43, 0), (892, 55, 891, 0, 1), (896, 55, 894, 895, 0), (900, 55, 898, 899, 0), (904, 55, 902, 903, 0), (908, 55, 907, 44, 0), (912, 55, 910, 911, 0), (916, 55, 915, 45, 0), (920, 55, 919, 46, 0), (924, 55, 922, 923, 0), (928, 55, 926, 927, 0), (932, 55, 930, 931, 0), (936, 55, 934, 935, 0), (940, 55, 938, 939, 0), (944, 55, 942, 943, 0), (948, 55, 946, 947, 0), (952, 55, 950, 951, 0), (956, 55, 954, 955, 0), (0, 0, 0, 0, 2)]
def am_has (h : Nat) (w : Cond) : Bool := decide (lw_tbl[h]? = some w) && goodWord w
def am_len (ins : Instr) : Nat := match ins with
  | .tableswitch _ _ _ _ => 0
  | .lookupswitch _ _ => 0
  | .bipush _ => 2
  | .sipush _ => 3
  | .ldc2_w _ => 3
  | .iload _ => 2
  | .lload _ => 2
  | .aload _ => 2
  | .istore _ => 2
  | .lstore _ => 2
  | .astore _ => 2
  | .iinc _ _ => 3
  | .goto _ => 3
  | .ifCond _ _ => 3
  | .if_icmp _ _ => 3
  | .ifnull _ => 3
  | .ifnonnull _ => 3
  | .getfield _ => 3
  | .putfield _ => 3
  | .new _ => 3
  | .newarray _ => 2
  | .anewarray _ => 3
  | .invokestatic _ => 3
  | .invokevirtual _ => 3
  | .invokespecial _ => 3
  | _ => 1
def am_np (y : MethodName) : Option Nat := (parseMethodDescriptor y.desc).map (fun d => d.parameters.length)
/-- what the tables must say at a place -/
def am_okL (t : am_T) (pc : Nat) (ins : Instr) (a b h : Nat) : Bool := match ins with
  | .goto o => decide ((pc : Int) + o = (a : Int))
  | .ifCond _ o => decide ((pc : Int) + o = (a : Int))
  | .if_icmp _ o => decide ((pc : Int) + o = (a : Int))
  | .ifnull o => decide ((pc : Int) + o = (a : Int))
  | .ifnonnull o => decide ((pc : Int) + o = (a : Int))
  | .ldc2_w ix => am_has h (.constantLong t.1.cls ix (Int64.ofNat a))
  | .getfield ix => (match vwCl[a]? with
    | some q => decide (b < q.2.2) && am_has h (.fieldLink t.1.cls ix (q.2.1 b).1 (q.2.1 b).2.1 (q.2.1 b).2.2.1)
    | none => false)
  | .putfield ix => (match vwCl[a]? with
    | some q => decide (b < q.2.2) && am_has h (.fieldLink t.1.cls ix (q.2.1 b).1 (q.2.1 b).2.1 (q.2.1 b).2.2.1) && (decide ((q.2.1 b).2.2.2 = false) || (decide ((q.2.1 b).2.2.2 = true) && decide (t.1.name = "<init>") && decide ((q.2.1 b).1 = t.1.cls)))
    | none => false)
  | .new ix => (match vwCl[a - 10]? with
    | some q => decide (10 ≤ a) && am_has h (.classLink t.1.cls ix q.1)
    | none => false)
  | .anewarray ix => decide (2 ≤ a ∧ a < 5) && am_has h (.classLink t.1.cls ix (am_ra a))
  | .invokestatic ix => if b = 300 then am_has h (.methodLink t.1.cls ix arraycopyName) else (match am_mt[a]?, am_hm[a]? with
    | some t', some m' => am_has h (.methodLink t.1.cls ix t'.1) && decide (am_np t'.1 = some b) && decide (m'.2.2.2.2 = 1)
    | _, _ => false)
  | .invokevirtual ix => (match am_mt[a]?, am_hm[a]? with
    | some t', some m' => am_has h (.methodLink t.1.cls ix t'.1) && decide (am_np t'.1 = some b) && decide (m'.2.2.2.2 = 0) && decide (t'.1.name ≠ "<init>")
    | _, _ => false)
  | .invokespecial ix => if b = 200 then am_has h (.methodLink t.1.cls ix objectInit) else (match am_mt[a]?, am_hm[a]? with
    | some t', some m' => (if b < 100 then am_has h (.methodLink t.1.cls ix t'.1) else decide (lw_tbl[h]? = some (.methodLinkNest t.1.cls ix t'.1 "TwoGames"))) && decide (am_np t'.1 = some (b % 100)) && decide (m'.2.2.2.2 = 0) && decide (t'.1.name = "<init>")
    | _, _ => false)
  | _ => true
def am_okE (t : am_T) (e : am_E) : Bool := decide (decode t.2.1 e.1 = .ok (e.2.1, e.2.2.1 - e.1)) && (decide (am_len e.2.1 = 0) || decide (e.2.2.1 = e.1 + am_len e.2.1)) && am_okL t e.1 e.2.1 e.2.2.2.1 e.2.2.2.2.1 e.2.2.2.2.2
/-- what the tables must say of a method -/
def am_okM (t : am_T) (m : Nat × Nat × Nat × Nat × Nat) : Bool := am_has m.1 (.code t.1 t.2.1 t.2.2.1 t.2.2.2.1) && am_has m.2.1 (.initialized t.1.cls) && plainFor t.1 && decide (t.1.cls ≠ "java/lang/invoke/MethodHandle" ∧ t.1.cls ≠ "java/lang/invoke/VarHandle" ∧ t.2.2.1 ≤ 80) && (if m.2.2.2.2 = 1 then am_has m.2.2.1 (.static t.1) else am_has m.2.2.1 (.instanceMethod t.1) && decide (10 ≤ t.2.2.2.2.1) && (match vwCl[t.2.2.2.2.1 - 10]? with
    | some q => decide (q.1 = t.1.cls)
    | none => false) && (if t.1.name = "<init>" then decide (t.2.2.2.1 = none) else am_has m.2.2.2.1 (.selects t.1.cls t.1 t.1)))
