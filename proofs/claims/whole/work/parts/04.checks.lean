/-! ===== the table is right: what the machine decodes and links at each place ===== -/
/-- by method: where its code, its class, its kind, its choice stand in lw_tbl; 1 if it is static -/
def am_hm : List (Nat × Nat × Nat × Nat × Nat) := [(62, 47, 61, 0, 0), (74, 48, 73, 0, 0), (91, 49, 90, 0, 0), (106, 50, 105, 0, 0), (132, 51, 131, 0, 0), (152, 52, 151, 0, 0), (187, 53, 186, 0, 1), (234, 47, 232, 233, 0), (238, 47, 236, 237, 0), (242, 47, 241, 0, 0), (246, 55, 245, 0, 0), (264, 47, 262, 263, 0), (267, 47, 266, 0, 1), (271, 47, 269, 270, 0), (275, 47, 273, 274, 0), (279, 47, 277, 278, 0), (283, 47, 282, 1, 0), (287, 55, 285, 286, 0), (290, 56, 289, 0, 1), (294, 55, 292, 293, 0), (297, 56, 296, 0, 1), (301, 47, 299, 300, 0), (305, 55, 303, 304, 0), (309, 47, 308, 2, 0), (313, 47, 311, 312, 0), (317, 55, 315, 316, 0), (321, 47, 319, 320, 0), (325, 55, 323, 324, 0), (330, 47, 328, 329, 0), (334, 55, 332, 333, 0), (338, 47, 336, 337, 0), (342, 47, 341, 3, 0), (346, 49, 344, 345, 0), (351, 47, 349, 350, 0), (355, 49, 353, 354, 0), (359, 47, 357, 358, 0), (363, 47, 361, 362, 0), (367, 49, 365, 366, 0), (374, 47, 372, 373, 0), (378, 47, 377, 4, 0), (382, 47, 381, 5, 0), (386, 47, 385, 6, 0), (390, 47, 389, 7, 0), (394, 47, 393, 8, 0), (398, 52, 396, 397, 0), (401, 53, 400, 0, 1), (405, 52, 403, 404, 0), (409, 52, 407, 408, 0), (413, 52, 412, 9, 0), (418, 48, 416, 417, 0), (421, 56, 420, 0, 1), (424, 48, 423, 0, 1), (428, 47, 426, 427, 0), (432, 52, 430, 431, 0), (436, 52, 435, 10, 0), (440, 47, 438, 439, 0), (444, 47, 443, 11, 0), (448, 52, 446, 447, 0), (452, 52, 450, 451, 0), (456, 47, 454, 455, 0), (460, 47, 459, 12, 0), (464, 47, 462, 463, 0), (468, 47, 466, 467, 0), (472, 47, 471, 13, 0), (476, 50, 474, 475, 0), (481, 50, 480, 14, 0), (484, 56, 483, 0, 1), (490, 47, 489, 15, 0), (494, 47, 492, 493, 0), (498, 47, 497, 16, 0), (502, 47, 501, 17, 0), (506, 47, 504, 505, 0), (510, 47, 508, 509, 0), (514, 47, 513, 18, 0), (518, 47, 517, 19, 0), (522, 47, 520, 521, 0), (525, 47, 524, 0, 1), (528, 47, 527, 0, 1), (531, 47, 530, 0, 1), (535, 47, 534, 20, 0), (539, 51, 537, 538, 0), (544, 51, 542, 543, 0), (547, 56, 546, 0, 1), (552, 51, 550, 551, 0), (556, 47, 554, 555, 0), (560, 51, 558, 559, 0), (564, 47, 562, 563, 0), (567, 47, 566, 0, 1), (571, 47, 570, 21, 0), (576, 47, 574, 575, 0), (581, 47, 579, 580, 0), (585, 47, 583, 584, 0), (589, 47, 587, 588, 0), (593, 47, 592, 22, 0), (597, 47, 596, 23, 0), (601, 47, 599, 600, 0), (605, 47, 603, 604, 0), (609, 47, 607, 608, 0), (614, 55, 612, 613, 0), (621, 49, 619, 620, 0), (627, 54, 626, 0, 0), (720, 54, 718, 719, 0), (723, 54, 722, 0, 1), (727, 54, 725, 726, 0), (731, 54, 730, 24, 0), (735, 54, 733, 734, 0), (738, 54, 737, 0, 1), (742, 54, 740, 741, 0), (746, 54, 744, 745, 0), (750, 54, 748, 749, 0), (754, 54, 753, 25, 0), (758, 54, 757, 26, 0), (762, 54, 761, 27, 0), (766, 54, 764, 765, 0), (770, 54, 769, 28, 0), (774, 54, 772, 773, 0), (778, 54, 776, 777, 0), (782, 54, 780, 781, 0), (786, 54, 784, 785, 0), (789, 54, 788, 0, 1), (793, 54, 791, 792, 0), (797, 54, 796, 29, 0), (801, 54, 799, 800, 0), (805, 54, 803, 804, 0), (809, 54, 807, 808, 0), (813, 54, 812, 30, 0), (817, 54, 816, 31, 0), (822, 54, 821, 32, 0), (826, 54, 825, 33, 0), (830, 54, 829, 34, 0), (835, 54, 834, 35, 0), (839, 54, 838, 36, 0), (843, 54, 841, 842, 0), (847, 54, 846, 37, 0), (851, 54, 849, 850, 0), (855, 54, 854, 38, 0), (859, 54, 858, 39, 0), (863, 54, 861, 862, 0), (867, 54, 866, 40, 0), (871, 54, 870, 41, 0), (876, 54, 874, 875, 0), (880, 54, 878, 879, 0), (884, 54, 883, 42, 0), (887, 54, 886, 0, 1), (891, 54, 889, 890, 0), (895, 54, 893, 894, 0), (899, 54, 897, 898, 0), (903, 54, 902, 43, 0), (907, 54, 905, 906, 0), (911, 54, 910, 44, 0), (915, 54, 914, 45, 0), (919, 54, 917, 918, 0), (923, 54, 921, 922, 0), (927, 54, 925, 926, 0), (931, 54, 929, 930, 0), (935, 54, 933, 934, 0), (939, 54, 937, 938, 0), (943, 54, 941, 942, 0), (947, 54, 945, 946, 0), (951, 54, 949, 950, 0), (0, 0, 0, 0, 2)]
def am_has (h : Nat) (w : Cond) : Bool := decide (lw_tbl[h]? = some w) && goodWord w
def am_len (ins : Instr) : Nat := match ins with
  | .tableswitch _ _ _ _ => 0
  | .lookupswitch _ _ => 0
  | .bipush _ => 2
  | .sipush _ => 3
  | .ldc2_w _ => 3
  | .iload _ => 2
  | .lload _ => 2
  | .aload _ => 2
  | .istore _ => 2
  | .lstore _ => 2
  | .astore _ => 2
  | .iinc _ _ => 3
  | .goto _ => 3
  | .ifCond _ _ => 3
  | .if_icmp _ _ => 3
  | .ifnull _ => 3
  | .ifnonnull _ => 3
  | .getfield _ => 3
  | .putfield _ => 3
  | .new _ => 3
  | .newarray _ => 2
  | .anewarray _ => 3
  | .invokestatic _ => 3
  | .invokevirtual _ => 3
  | .invokespecial _ => 3
  | _ => 1
def am_np (y : MethodName) : Option Nat := (parseMethodDescriptor y.desc).map (fun d => d.parameters.length)
/-- what the tables must say at a place -/
def am_okL (t : am_T) (pc : Nat) (ins : Instr) (a b h : Nat) : Bool := match ins with
  | .goto o => decide ((pc : Int) + o = (a : Int))
  | .ifCond _ o => decide ((pc : Int) + o = (a : Int))
  | .if_icmp _ o => decide ((pc : Int) + o = (a : Int))
  | .ifnull o => decide ((pc : Int) + o = (a : Int))
  | .ifnonnull o => decide ((pc : Int) + o = (a : Int))
  | .ldc2_w ix => am_has h (.constantLong t.1.cls ix (Int64.ofNat a))
  | .getfield ix => (match vwCl[a]? with
    | some q => decide (b < q.2.2) && am_has h (.fieldLink t.1.cls ix (q.2.1 b).1 (q.2.1 b).2.1 (q.2.1 b).2.2.1)
    | none => false)
  | .putfield ix => (match vwCl[a]? with
    | some q => decide (b < q.2.2) && am_has h (.fieldLink t.1.cls ix (q.2.1 b).1 (q.2.1 b).2.1 (q.2.1 b).2.2.1) && (decide ((q.2.1 b).2.2.2 = false) || (decide ((q.2.1 b).2.2.2 = true) && decide (t.1.name = "<init>") && decide ((q.2.1 b).1 = t.1.cls)))
    | none => false)
  | .new ix => (match vwCl[a - 10]? with
    | some q => decide (10 ≤ a) && am_has h (.classLink t.1.cls ix q.1)
    | none => false)
  | .anewarray ix => decide (2 ≤ a ∧ a < 5) && am_has h (.classLink t.1.cls ix (am_ra a))
  | .invokestatic ix => if b = 300 then am_has h (.methodLink t.1.cls ix arraycopyName) else (match am_mt[a]?, am_hm[a]? with
    | some t', some m' => am_has h (.methodLink t.1.cls ix t'.1) && decide (am_np t'.1 = some b) && decide (m'.2.2.2.2 = 1)
    | _, _ => false)
  | .invokevirtual ix => (match am_mt[a]?, am_hm[a]? with
    | some t', some m' => am_has h (.methodLink t.1.cls ix t'.1) && decide (am_np t'.1 = some b) && decide (m'.2.2.2.2 = 0) && decide (t'.1.name ≠ "<init>")
    | _, _ => false)
  | .invokespecial ix => if b = 200 then am_has h (.methodLink t.1.cls ix objectInit) else (match am_mt[a]?, am_hm[a]? with
    | some t', some m' => (if b < 100 then am_has h (.methodLink t.1.cls ix t'.1) else decide (lw_tbl[h]? = some (.methodLinkNest t.1.cls ix t'.1 "TwoGames"))) && decide (am_np t'.1 = some (b % 100)) && decide (m'.2.2.2.2 = 0) && decide (t'.1.name = "<init>")
    | _, _ => false)
  | _ => true
def am_okE (t : am_T) (e : am_E) : Bool := decide (decode t.2.1 e.1 = .ok (e.2.1, e.2.2.1 - e.1)) && (decide (am_len e.2.1 = 0) || decide (e.2.2.1 = e.1 + am_len e.2.1)) && am_okL t e.1 e.2.1 e.2.2.2.1 e.2.2.2.2.1 e.2.2.2.2.2
/-- what the tables must say of a method -/
def am_okM (t : am_T) (m : Nat × Nat × Nat × Nat × Nat) : Bool := am_has m.1 (.code t.1 t.2.1 t.2.2.1 t.2.2.2.1) && am_has m.2.1 (.initialized t.1.cls) && plainFor t.1 && decide (t.1.cls ≠ "java/lang/invoke/MethodHandle" ∧ t.1.cls ≠ "java/lang/invoke/VarHandle" ∧ t.2.2.1 ≤ 80) && (if m.2.2.2.2 = 1 then am_has m.2.2.1 (.static t.1) else am_has m.2.2.1 (.instanceMethod t.1) && decide (10 ≤ t.2.2.2.2.1) && (match vwCl[t.2.2.2.2.1 - 10]? with
    | some q => decide (q.1 = t.1.cls)
    | none => false) && (if t.1.name = "<init>" then decide (t.2.2.2.1 = none) else am_has m.2.2.2.1 (.selects t.1.cls t.1 t.1)))
