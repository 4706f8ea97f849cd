/-! The reference: its places, its smallest methods. Written by wip/whole/tools/mk_md.py. -/
def mdT : List (Int × Int × Nat × Nat) := [(1, 776, 0, 11), (2, 777, 0, 440), (3, 778, 0, 440), (4, 779, 0, 11), (5, 780, 0, 220), (6, 781, 0, 220), (7, 782, 0, 220), (8, 783, 0, 220), (9, 784, 0, 1760), (10, 785, 0, 1760), (11, 786, 0, 11), (12, 787, 0, 11), (13, 788, 0, 66), (14, 789, 0, 66), (15, 790, 0, 320), (21, 791, 0, 6), (22, 792, 0, 6), (29, 793, 0, 4), (30, 794, 0, 16), (31, 795, 0, 16), (32, 796, 0, 16), (33, 797, 0, 24), (34, 798, 0, 4), (35, 799, 0, 4), (37, 800, 0, 4), (38, 801, 0, 4), (39, 802, 0, 4), (40, 803, 0, 6), (45, 804, 1, 20), (46, 805, 0, 6), (47, 806, 0, 6), (48, 807, 0, 6), (49, 808, 0, 6), (51, 809, 0, 20), (52, 810, 0, 20), (54, 811, 0, 1000), (56, 812, 0, 4), (57, 813, 0, 1681), (58, 814, 0, 40), (59, 815, 1, 40), (60, 816, 0, 400), (61, 817, 0, 1024), (63, 818, 0, 10)]
def mdK (K : List gK) (R : Int → Int → Int) : Prop := kd (K, R, fun _ _ => 0) 775 = some (.inl 11) ∧ ∀ p ∈ mdT, R 775 p.1 = p.2.1 ∧ kd (K, R, fun _ _ => 0) p.2.1 = some (.inr p.2.2)
theorem mR1 {K : List gK} {R : Int → Int → Int} (h : mdK K R) : R 775 1 = 776 := (h.2 (1, 776, 0, 11) (List.mem_of_getElem? (i := 0) rfl)).1
theorem mA1 {K : List gK} {R V : Int → Int → Int} (h : mdK K R) : kd (K, R, V) 776 = some (.inr (0, 11)) := (h.2 (1, 776, 0, 11) (List.mem_of_getElem? (i := 0) rfl)).2
theorem mR2 {K : List gK} {R : Int → Int → Int} (h : mdK K R) : R 775 2 = 777 := (h.2 (2, 777, 0, 440) (List.mem_of_getElem? (i := 1) rfl)).1
theorem mA2 {K : List gK} {R V : Int → Int → Int} (h : mdK K R) : kd (K, R, V) 777 = some (.inr (0, 440)) := (h.2 (2, 777, 0, 440) (List.mem_of_getElem? (i := 1) rfl)).2
theorem mR3 {K : List gK} {R : Int → Int → Int} (h : mdK K R) : R 775 3 = 778 := (h.2 (3, 778, 0, 440) (List.mem_of_getElem? (i := 2) rfl)).1
theorem mA3 {K : List gK} {R V : Int → Int → Int} (h : mdK K R) : kd (K, R, V) 778 = some (.inr (0, 440)) := (h.2 (3, 778, 0, 440) (List.mem_of_getElem? (i := 2) rfl)).2
theorem mR4 {K : List gK} {R : Int → Int → Int} (h : mdK K R) : R 775 4 = 779 := (h.2 (4, 779, 0, 11) (List.mem_of_getElem? (i := 3) rfl)).1
theorem mA4 {K : List gK} {R V : Int → Int → Int} (h : mdK K R) : kd (K, R, V) 779 = some (.inr (0, 11)) := (h.2 (4, 779, 0, 11) (List.mem_of_getElem? (i := 3) rfl)).2
theorem mR5 {K : List gK} {R : Int → Int → Int} (h : mdK K R) : R 775 5 = 780 := (h.2 (5, 780, 0, 220) (List.mem_of_getElem? (i := 4) rfl)).1
theorem mA5 {K : List gK} {R V : Int → Int → Int} (h : mdK K R) : kd (K, R, V) 780 = some (.inr (0, 220)) := (h.2 (5, 780, 0, 220) (List.mem_of_getElem? (i := 4) rfl)).2
theorem mR6 {K : List gK} {R : Int → Int → Int} (h : mdK K R) : R 775 6 = 781 := (h.2 (6, 781, 0, 220) (List.mem_of_getElem? (i := 5) rfl)).1
theorem mA6 {K : List gK} {R V : Int → Int → Int} (h : mdK K R) : kd (K, R, V) 781 = some (.inr (0, 220)) := (h.2 (6, 781, 0, 220) (List.mem_of_getElem? (i := 5) rfl)).2
theorem mR7 {K : List gK} {R : Int → Int → Int} (h : mdK K R) : R 775 7 = 782 := (h.2 (7, 782, 0, 220) (List.mem_of_getElem? (i := 6) rfl)).1
theorem mA7 {K : List gK} {R V : Int → Int → Int} (h : mdK K R) : kd (K, R, V) 782 = some (.inr (0, 220)) := (h.2 (7, 782, 0, 220) (List.mem_of_getElem? (i := 6) rfl)).2
theorem mR8 {K : List gK} {R : Int → Int → Int} (h : mdK K R) : R 775 8 = 783 := (h.2 (8, 783, 0, 220) (List.mem_of_getElem? (i := 7) rfl)).1
theorem mA8 {K : List gK} {R V : Int → Int → Int} (h : mdK K R) : kd (K, R, V) 783 = some (.inr (0, 220)) := (h.2 (8, 783, 0, 220) (List.mem_of_getElem? (i := 7) rfl)).2
theorem mR9 {K : List gK} {R : Int → Int → Int} (h : mdK K R) : R 775 9 = 784 := (h.2 (9, 784, 0, 1760) (List.mem_of_getElem? (i := 8) rfl)).1
theorem mA9 {K : List gK} {R V : Int → Int → Int} (h : mdK K R) : kd (K, R, V) 784 = some (.inr (0, 1760)) := (h.2 (9, 784, 0, 1760) (List.mem_of_getElem? (i := 8) rfl)).2
theorem mR10 {K : List gK} {R : Int → Int → Int} (h : mdK K R) : R 775 10 = 785 := (h.2 (10, 785, 0, 1760) (List.mem_of_getElem? (i := 9) rfl)).1
theorem mA10 {K : List gK} {R V : Int → Int → Int} (h : mdK K R) : kd (K, R, V) 785 = some (.inr (0, 1760)) := (h.2 (10, 785, 0, 1760) (List.mem_of_getElem? (i := 9) rfl)).2
theorem mR11 {K : List gK} {R : Int → Int → Int} (h : mdK K R) : R 775 11 = 786 := (h.2 (11, 786, 0, 11) (List.mem_of_getElem? (i := 10) rfl)).1
theorem mA11 {K : List gK} {R V : Int → Int → Int} (h : mdK K R) : kd (K, R, V) 786 = some (.inr (0, 11)) := (h.2 (11, 786, 0, 11) (List.mem_of_getElem? (i := 10) rfl)).2
theorem mR12 {K : List gK} {R : Int → Int → Int} (h : mdK K R) : R 775 12 = 787 := (h.2 (12, 787, 0, 11) (List.mem_of_getElem? (i := 11) rfl)).1
theorem mA12 {K : List gK} {R V : Int → Int → Int} (h : mdK K R) : kd (K, R, V) 787 = some (.inr (0, 11)) := (h.2 (12, 787, 0, 11) (List.mem_of_getElem? (i := 11) rfl)).2
theorem mR13 {K : List gK} {R : Int → Int → Int} (h : mdK K R) : R 775 13 = 788 := (h.2 (13, 788, 0, 66) (List.mem_of_getElem? (i := 12) rfl)).1
theorem mA13 {K : List gK} {R V : Int → Int → Int} (h : mdK K R) : kd (K, R, V) 788 = some (.inr (0, 66)) := (h.2 (13, 788, 0, 66) (List.mem_of_getElem? (i := 12) rfl)).2
theorem mR14 {K : List gK} {R : Int → Int → Int} (h : mdK K R) : R 775 14 = 789 := (h.2 (14, 789, 0, 66) (List.mem_of_getElem? (i := 13) rfl)).1
theorem mA14 {K : List gK} {R V : Int → Int → Int} (h : mdK K R) : kd (K, R, V) 789 = some (.inr (0, 66)) := (h.2 (14, 789, 0, 66) (List.mem_of_getElem? (i := 13) rfl)).2
theorem mR15 {K : List gK} {R : Int → Int → Int} (h : mdK K R) : R 775 15 = 790 := (h.2 (15, 790, 0, 320) (List.mem_of_getElem? (i := 14) rfl)).1
theorem mA15 {K : List gK} {R V : Int → Int → Int} (h : mdK K R) : kd (K, R, V) 790 = some (.inr (0, 320)) := (h.2 (15, 790, 0, 320) (List.mem_of_getElem? (i := 14) rfl)).2
theorem mR21 {K : List gK} {R : Int → Int → Int} (h : mdK K R) : R 775 21 = 791 := (h.2 (21, 791, 0, 6) (List.mem_of_getElem? (i := 15) rfl)).1
theorem mA21 {K : List gK} {R V : Int → Int → Int} (h : mdK K R) : kd (K, R, V) 791 = some (.inr (0, 6)) := (h.2 (21, 791, 0, 6) (List.mem_of_getElem? (i := 15) rfl)).2
theorem mR22 {K : List gK} {R : Int → Int → Int} (h : mdK K R) : R 775 22 = 792 := (h.2 (22, 792, 0, 6) (List.mem_of_getElem? (i := 16) rfl)).1
theorem mA22 {K : List gK} {R V : Int → Int → Int} (h : mdK K R) : kd (K, R, V) 792 = some (.inr (0, 6)) := (h.2 (22, 792, 0, 6) (List.mem_of_getElem? (i := 16) rfl)).2
theorem mR29 {K : List gK} {R : Int → Int → Int} (h : mdK K R) : R 775 29 = 793 := (h.2 (29, 793, 0, 4) (List.mem_of_getElem? (i := 17) rfl)).1
theorem mA29 {K : List gK} {R V : Int → Int → Int} (h : mdK K R) : kd (K, R, V) 793 = some (.inr (0, 4)) := (h.2 (29, 793, 0, 4) (List.mem_of_getElem? (i := 17) rfl)).2
theorem mR30 {K : List gK} {R : Int → Int → Int} (h : mdK K R) : R 775 30 = 794 := (h.2 (30, 794, 0, 16) (List.mem_of_getElem? (i := 18) rfl)).1
theorem mA30 {K : List gK} {R V : Int → Int → Int} (h : mdK K R) : kd (K, R, V) 794 = some (.inr (0, 16)) := (h.2 (30, 794, 0, 16) (List.mem_of_getElem? (i := 18) rfl)).2
theorem mR31 {K : List gK} {R : Int → Int → Int} (h : mdK K R) : R 775 31 = 795 := (h.2 (31, 795, 0, 16) (List.mem_of_getElem? (i := 19) rfl)).1
theorem mA31 {K : List gK} {R V : Int → Int → Int} (h : mdK K R) : kd (K, R, V) 795 = some (.inr (0, 16)) := (h.2 (31, 795, 0, 16) (List.mem_of_getElem? (i := 19) rfl)).2
theorem mR32 {K : List gK} {R : Int → Int → Int} (h : mdK K R) : R 775 32 = 796 := (h.2 (32, 796, 0, 16) (List.mem_of_getElem? (i := 20) rfl)).1
theorem mA32 {K : List gK} {R V : Int → Int → Int} (h : mdK K R) : kd (K, R, V) 796 = some (.inr (0, 16)) := (h.2 (32, 796, 0, 16) (List.mem_of_getElem? (i := 20) rfl)).2
theorem mR33 {K : List gK} {R : Int → Int → Int} (h : mdK K R) : R 775 33 = 797 := (h.2 (33, 797, 0, 24) (List.mem_of_getElem? (i := 21) rfl)).1
theorem mA33 {K : List gK} {R V : Int → Int → Int} (h : mdK K R) : kd (K, R, V) 797 = some (.inr (0, 24)) := (h.2 (33, 797, 0, 24) (List.mem_of_getElem? (i := 21) rfl)).2
theorem mR34 {K : List gK} {R : Int → Int → Int} (h : mdK K R) : R 775 34 = 798 := (h.2 (34, 798, 0, 4) (List.mem_of_getElem? (i := 22) rfl)).1
theorem mA34 {K : List gK} {R V : Int → Int → Int} (h : mdK K R) : kd (K, R, V) 798 = some (.inr (0, 4)) := (h.2 (34, 798, 0, 4) (List.mem_of_getElem? (i := 22) rfl)).2
theorem mR35 {K : List gK} {R : Int → Int → Int} (h : mdK K R) : R 775 35 = 799 := (h.2 (35, 799, 0, 4) (List.mem_of_getElem? (i := 23) rfl)).1
theorem mA35 {K : List gK} {R V : Int → Int → Int} (h : mdK K R) : kd (K, R, V) 799 = some (.inr (0, 4)) := (h.2 (35, 799, 0, 4) (List.mem_of_getElem? (i := 23) rfl)).2
theorem mR37 {K : List gK} {R : Int → Int → Int} (h : mdK K R) : R 775 37 = 800 := (h.2 (37, 800, 0, 4) (List.mem_of_getElem? (i := 24) rfl)).1
theorem mA37 {K : List gK} {R V : Int → Int → Int} (h : mdK K R) : kd (K, R, V) 800 = some (.inr (0, 4)) := (h.2 (37, 800, 0, 4) (List.mem_of_getElem? (i := 24) rfl)).2
theorem mR38 {K : List gK} {R : Int → Int → Int} (h : mdK K R) : R 775 38 = 801 := (h.2 (38, 801, 0, 4) (List.mem_of_getElem? (i := 25) rfl)).1
theorem mA38 {K : List gK} {R V : Int → Int → Int} (h : mdK K R) : kd (K, R, V) 801 = some (.inr (0, 4)) := (h.2 (38, 801, 0, 4) (List.mem_of_getElem? (i := 25) rfl)).2
theorem mR39 {K : List gK} {R : Int → Int → Int} (h : mdK K R) : R 775 39 = 802 := (h.2 (39, 802, 0, 4) (List.mem_of_getElem? (i := 26) rfl)).1
theorem mA39 {K : List gK} {R V : Int → Int → Int} (h : mdK K R) : kd (K, R, V) 802 = some (.inr (0, 4)) := (h.2 (39, 802, 0, 4) (List.mem_of_getElem? (i := 26) rfl)).2
theorem mR40 {K : List gK} {R : Int → Int → Int} (h : mdK K R) : R 775 40 = 803 := (h.2 (40, 803, 0, 6) (List.mem_of_getElem? (i := 27) rfl)).1
theorem mA40 {K : List gK} {R V : Int → Int → Int} (h : mdK K R) : kd (K, R, V) 803 = some (.inr (0, 6)) := (h.2 (40, 803, 0, 6) (List.mem_of_getElem? (i := 27) rfl)).2
theorem mR45 {K : List gK} {R : Int → Int → Int} (h : mdK K R) : R 775 45 = 804 := (h.2 (45, 804, 1, 20) (List.mem_of_getElem? (i := 28) rfl)).1
theorem mA45 {K : List gK} {R V : Int → Int → Int} (h : mdK K R) : kd (K, R, V) 804 = some (.inr (1, 20)) := (h.2 (45, 804, 1, 20) (List.mem_of_getElem? (i := 28) rfl)).2
theorem mR46 {K : List gK} {R : Int → Int → Int} (h : mdK K R) : R 775 46 = 805 := (h.2 (46, 805, 0, 6) (List.mem_of_getElem? (i := 29) rfl)).1
theorem mA46 {K : List gK} {R V : Int → Int → Int} (h : mdK K R) : kd (K, R, V) 805 = some (.inr (0, 6)) := (h.2 (46, 805, 0, 6) (List.mem_of_getElem? (i := 29) rfl)).2
theorem mR47 {K : List gK} {R : Int → Int → Int} (h : mdK K R) : R 775 47 = 806 := (h.2 (47, 806, 0, 6) (List.mem_of_getElem? (i := 30) rfl)).1
theorem mA47 {K : List gK} {R V : Int → Int → Int} (h : mdK K R) : kd (K, R, V) 806 = some (.inr (0, 6)) := (h.2 (47, 806, 0, 6) (List.mem_of_getElem? (i := 30) rfl)).2
theorem mR48 {K : List gK} {R : Int → Int → Int} (h : mdK K R) : R 775 48 = 807 := (h.2 (48, 807, 0, 6) (List.mem_of_getElem? (i := 31) rfl)).1
theorem mA48 {K : List gK} {R V : Int → Int → Int} (h : mdK K R) : kd (K, R, V) 807 = some (.inr (0, 6)) := (h.2 (48, 807, 0, 6) (List.mem_of_getElem? (i := 31) rfl)).2
theorem mR49 {K : List gK} {R : Int → Int → Int} (h : mdK K R) : R 775 49 = 808 := (h.2 (49, 808, 0, 6) (List.mem_of_getElem? (i := 32) rfl)).1
theorem mA49 {K : List gK} {R V : Int → Int → Int} (h : mdK K R) : kd (K, R, V) 808 = some (.inr (0, 6)) := (h.2 (49, 808, 0, 6) (List.mem_of_getElem? (i := 32) rfl)).2
theorem mR51 {K : List gK} {R : Int → Int → Int} (h : mdK K R) : R 775 51 = 809 := (h.2 (51, 809, 0, 20) (List.mem_of_getElem? (i := 33) rfl)).1
theorem mA51 {K : List gK} {R V : Int → Int → Int} (h : mdK K R) : kd (K, R, V) 809 = some (.inr (0, 20)) := (h.2 (51, 809, 0, 20) (List.mem_of_getElem? (i := 33) rfl)).2
theorem mR52 {K : List gK} {R : Int → Int → Int} (h : mdK K R) : R 775 52 = 810 := (h.2 (52, 810, 0, 20) (List.mem_of_getElem? (i := 34) rfl)).1
theorem mA52 {K : List gK} {R V : Int → Int → Int} (h : mdK K R) : kd (K, R, V) 810 = some (.inr (0, 20)) := (h.2 (52, 810, 0, 20) (List.mem_of_getElem? (i := 34) rfl)).2
theorem mR54 {K : List gK} {R : Int → Int → Int} (h : mdK K R) : R 775 54 = 811 := (h.2 (54, 811, 0, 1000) (List.mem_of_getElem? (i := 35) rfl)).1
theorem mA54 {K : List gK} {R V : Int → Int → Int} (h : mdK K R) : kd (K, R, V) 811 = some (.inr (0, 1000)) := (h.2 (54, 811, 0, 1000) (List.mem_of_getElem? (i := 35) rfl)).2
theorem mR56 {K : List gK} {R : Int → Int → Int} (h : mdK K R) : R 775 56 = 812 := (h.2 (56, 812, 0, 4) (List.mem_of_getElem? (i := 36) rfl)).1
theorem mA56 {K : List gK} {R V : Int → Int → Int} (h : mdK K R) : kd (K, R, V) 812 = some (.inr (0, 4)) := (h.2 (56, 812, 0, 4) (List.mem_of_getElem? (i := 36) rfl)).2
theorem mR57 {K : List gK} {R : Int → Int → Int} (h : mdK K R) : R 775 57 = 813 := (h.2 (57, 813, 0, 1681) (List.mem_of_getElem? (i := 37) rfl)).1
theorem mA57 {K : List gK} {R V : Int → Int → Int} (h : mdK K R) : kd (K, R, V) 813 = some (.inr (0, 1681)) := (h.2 (57, 813, 0, 1681) (List.mem_of_getElem? (i := 37) rfl)).2
theorem mR58 {K : List gK} {R : Int → Int → Int} (h : mdK K R) : R 775 58 = 814 := (h.2 (58, 814, 0, 40) (List.mem_of_getElem? (i := 38) rfl)).1
theorem mA58 {K : List gK} {R V : Int → Int → Int} (h : mdK K R) : kd (K, R, V) 814 = some (.inr (0, 40)) := (h.2 (58, 814, 0, 40) (List.mem_of_getElem? (i := 38) rfl)).2
theorem mR59 {K : List gK} {R : Int → Int → Int} (h : mdK K R) : R 775 59 = 815 := (h.2 (59, 815, 1, 40) (List.mem_of_getElem? (i := 39) rfl)).1
theorem mA59 {K : List gK} {R V : Int → Int → Int} (h : mdK K R) : kd (K, R, V) 815 = some (.inr (1, 40)) := (h.2 (59, 815, 1, 40) (List.mem_of_getElem? (i := 39) rfl)).2
theorem mR60 {K : List gK} {R : Int → Int → Int} (h : mdK K R) : R 775 60 = 816 := (h.2 (60, 816, 0, 400) (List.mem_of_getElem? (i := 40) rfl)).1
theorem mA60 {K : List gK} {R V : Int → Int → Int} (h : mdK K R) : kd (K, R, V) 816 = some (.inr (0, 400)) := (h.2 (60, 816, 0, 400) (List.mem_of_getElem? (i := 40) rfl)).2
theorem mR61 {K : List gK} {R : Int → Int → Int} (h : mdK K R) : R 775 61 = 817 := (h.2 (61, 817, 0, 1024) (List.mem_of_getElem? (i := 41) rfl)).1
theorem mA61 {K : List gK} {R V : Int → Int → Int} (h : mdK K R) : kd (K, R, V) 817 = some (.inr (0, 1024)) := (h.2 (61, 817, 0, 1024) (List.mem_of_getElem? (i := 41) rfl)).2
theorem mR63 {K : List gK} {R : Int → Int → Int} (h : mdK K R) : R 775 63 = 818 := (h.2 (63, 818, 0, 10) (List.mem_of_getElem? (i := 42) rfl)).1
theorem mA63 {K : List gK} {R V : Int → Int → Int} (h : mdK K R) : kd (K, R, V) 818 = some (.inr (0, 10)) := (h.2 (63, 818, 0, 10) (List.mem_of_getElem? (i := 42) rfl)).2
def inR (v a b : Int) : Bool := decide (a ≤ v ∧ v ≤ b)
def spA (V : Int → Int → Int) (b h i : Int) : Int := if h < 0 then V 778 (40 * b + i) else V 785 (8 * (20 * b + h) + i)
def wdA (V : Int → Int → Int) (b h i : Int) : Int := if h < 0 then V 777 (40 * b + i) else V 784 (8 * (20 * b + h) + i)
def hsA (V : Int → Int → Int) (b h : Int) : Int := if h < 0 then V 776 b else V 783 (20 * b + h)
theorem b2i_01 (b : Bool) : b2i b = 0 ∨ b2i b = 1 := by cases b; exact Or.inl rfl; exact Or.inr rfl
theorem gshl_bd : ∀ n : Fin 11, 1 ≤ gshl 1 ((n : Nat) : Int) ∧ gshl 1 ((n : Nat) : Int) ≤ 1024 := by decide +kernel
section MD
variable {l : Launch} {E : gE} {d : Nat} {K : List gK} {R V : Int → Int → Int} {b h i w : Int} {Q : gQ}
set_option maxRecDepth 4000 in
theorem m_in {v a b : Int} (hQ : Q (some (gi (b2i (inR v a b)))) (K, R, V)) : gC l E (d + 1) iX12_in [gl v, gl a, gl b] (K, R, V) Q := by
  refine gC_of kX12_in (ls := [some (gl v), none, some (gl a), none, some (gl b), none]) rfl (Nat.le_of_ble_eq_true rfl) ?_
  refine gX_lloadn dX12_in_0 rfl ?_
  refine gX_lloadn dX12_in_1 rfl ?_
  refine gX_lcmp dX12_in_2 ?_
  refine gX_iflt (tgt := 17) dX12_in_3 (by decide) (fun w1 => ?_) (fun w1 => ?_)
  · refine gX_iconst dX12_in_17 ⟨by decide, by decide⟩ ?_
    refine gX_iret dX12_in_18 (Or.inr ⟨rfl, Or.inl rfl⟩) ?_
    have ec : inR v a b = false := by
      unfold inR
      simp only [decide_eq_true_eq, decide_eq_false_iff_not]
      have c1 := gcmp_lt v a
      have c2 := gcmp_gt v b
      omega
    rw [ec] at hQ
    exact hQ
  · refine gX_lloadn dX12_in_6 rfl ?_
    refine gX_lload dX12_in_7 rfl ?_
    refine gX_lcmp dX12_in_9 ?_
    refine gX_ifgt (tgt := 17) dX12_in_10 (by decide) (fun w2 => ?_) (fun w2 => ?_)
    · refine gX_iconst dX12_in_17 ⟨by decide, by decide⟩ ?_
      refine gX_iret dX12_in_18 (Or.inr ⟨rfl, Or.inl rfl⟩) ?_
      have ec : inR v a b = false := by
        unfold inR
        simp only [decide_eq_true_eq, decide_eq_false_iff_not]
        have c1 := gcmp_lt v a
        have c2 := gcmp_gt v b
        omega
      rw [ec] at hQ
      exact hQ
    · refine gX_iconst dX12_in_13 ⟨by decide, by decide⟩ ?_
      refine gX_goto (tgt := 18) dX12_in_14 (by decide) ?_
      refine gX_iret dX12_in_18 (Or.inr ⟨rfl, Or.inr rfl⟩) ?_
      have ec : inR v a b = true := by
        unfold inR
        simp only [decide_eq_true_eq, decide_eq_false_iff_not]
        have c1 := gcmp_lt v a
        have c2 := gcmp_gt v b
        omega
      rw [ec] at hQ
      exact hQ
set_option maxRecDepth 4000 in
theorem m_isBook {n : Nat} (hM : mdK K R) (hn : V 775 0 = n) (h10 : n ≤ 10) (hQ : Q (some (gi (b2i (inR b 0 ((n : Int) - 1))))) (K, R, V)) : gC l E (d + 2) iX12_isBook [ga 775, gi b] (K, R, V) Q := by
  refine gC_of kX12_isBook (ls := [some (ga 775), some (gi b)]) rfl (Nat.le_of_ble_eq_true rfl) ?_
  refine gX_iloadn dX12_isBook_0 rfl ?_
  refine gX_i2l dX12_isBook_1 ?_
  refine gX_lconst (x := 0) dX12_isBook_2 (by decide) ⟨by decide, by decide⟩ ?_
  refine gX_aloadn dX12_isBook_3 rfl ?_
  refine gX_gI 0 dX12_isBook_4 fdX12_151 rfl (Or.inl rfl) hM.1 ?_
  rw [hn]
  refine gX_iconst dX12_isBook_7 ⟨by decide, by decide⟩ ?_
  refine gX_isub dX12_isBook_8 ⟨by omega, by omega⟩ ?_
  refine gX_i2l dX12_isBook_9 ?_
  refine gX_stat (J := iX12_in) (av := [gl b, gl 0, gl ((n : Int) - 1)]) (st := []) dX12_isBook_10 lkX12_154 kX12_in sX12_in (gFit_m (by decide)) rfl (Nat.le_of_ble_eq_true rfl) (Nat.zero_le _) (Nat.zero_le _) rfl ?_
  refine m_in ?_
  show gX l E _ 13 [some (ga 775), some (gi b)] [gi (b2i (inR b 0 ((n : Int) - 1)))] (K, R, V) _ _
  refine gX_iret dX12_isBook_13 (Or.inr ⟨rfl, b2i_01 _⟩) ?_
  exact hQ

set_option maxRecDepth 4000 in
theorem m_areBooks {n : Nat} (hM : mdK K R) (hn : V 775 0 = n) (h10 : n ≤ 10) (hQ : Q (some (gi (b2i (inR w 0 (gshl 1 n - 1))))) (K, R, V)) : gC l E (d + 2) iX12_areBooks [ga 775, gi w] (K, R, V) Q := by
  refine gC_of kX12_areBooks (ls := [some (ga 775), some (gi w)]) rfl (Nat.le_of_ble_eq_true rfl) ?_
  have hsh : 1 ≤ gshl 1 (n : Int) ∧ gshl 1 (n : Int) ≤ 1024 := gshl_bd ⟨n, by omega⟩
  refine gX_iloadn dX12_areBooks_0 rfl ?_
  refine gX_i2l dX12_areBooks_1 ?_
  refine gX_lconst (x := 0) dX12_areBooks_2 (by decide) ⟨by decide, by decide⟩ ?_
  refine gX_iconst dX12_areBooks_3 ⟨by decide, by decide⟩ ?_
  refine gX_aloadn dX12_areBooks_4 rfl ?_
  refine gX_gI 0 dX12_areBooks_5 fdX12_151 rfl (Or.inl rfl) hM.1 ?_
  rw [hn]
  refine gX_ishl dX12_areBooks_8 ?_
  refine gX_iconst dX12_areBooks_9 ⟨by decide, by decide⟩ ?_
  refine gX_isub dX12_areBooks_10 ⟨by omega, by omega⟩ ?_
  refine gX_i2l dX12_areBooks_11 ?_
  refine gX_stat (J := iX12_in) (av := [gl w, gl 0, gl ((gshl 1 (n : Int)) - 1)]) (st := []) dX12_areBooks_12 lkX12_154 kX12_in sX12_in (gFit_m (by decide)) rfl (Nat.le_of_ble_eq_true rfl) (Nat.zero_le _) (Nat.zero_le _) rfl ?_
  refine m_in ?_
  show gX l E _ 15 [some (ga 775), some (gi w)] [gi (b2i (inR w 0 (gshl 1 (n : Int) - 1)))] (K, R, V) _ _
  refine gX_iret dX12_areBooks_15 (Or.inr ⟨rfl, b2i_01 _⟩) ?_
  exact hQ
set_option maxRecDepth 4000 in
theorem m_isWord (hQ : Q (some (gi (b2i (inR w 0 63)))) (K, R, V)) : gC l E (d + 2) iX12_isWord [gi w] (K, R, V) Q := by
  refine gC_of kX12_isWord (ls := [some (gi w)]) rfl (Nat.le_of_ble_eq_true rfl) ?_
  refine gX_iloadn dX12_isWord_0 rfl ?_
  refine gX_i2l dX12_isWord_1 ?_
  refine gX_lconst (x := 0) dX12_isWord_2 (by decide) ⟨by decide, by decide⟩ ?_
  refine gX_ldc2 (x := 63) dX12_isWord_3 clX12_158 (by decide) ⟨by decide, by decide⟩ ?_
  refine gX_stat (J := iX12_in) (av := [gl w, gl 0, gl 63]) (st := []) dX12_isWord_6 lkX12_154 kX12_in sX12_in (gFit_m (by decide)) rfl (Nat.le_of_ble_eq_true rfl) (Nat.zero_le _) (Nat.zero_le _) rfl ?_
  refine m_in ?_
  show gX l E _ 9 [some (gi w)] [gi (b2i (inR w 0 63))] (K, R, V) _ _
  refine gX_iret dX12_isWord_9 (Or.inr ⟨rfl, b2i_01 _⟩) ?_
  exact hQ
set_option maxRecDepth 4000 in
theorem m_hostSize (hM : mdK K R) (hb : 0 ≤ b ∧ b ≤ 10) (hh : h < 20) (hQ : Q (some (gi (hsA V b h))) (K, R, V)) : gC l E (d + 1) iX12_hostSize [ga 775, gi b, gi h] (K, R, V) Q := by
  refine gC_of kX12_hostSize (ls := [some (ga 775), some (gi b), some (gi h)]) rfl (Nat.le_of_ble_eq_true rfl) ?_
  refine gX_iloadn dX12_hostSize_0 rfl ?_
  refine gX_ifge (tgt := 13) dX12_hostSize_1 (by decide) (fun w1 => ?_) (fun w1 => ?_)
  · refine gX_aloadn dX12_hostSize_13 rfl ?_
    refine gX_gR 8 dX12_hostSize_14 fdX12_31 rfl rfl hM.1 (mR8 hM) ?_
    refine gX_bipush dX12_hostSize_17 (by decide) ⟨by decide, by decide⟩ ?_
    refine gX_iloadn dX12_hostSize_19 rfl ?_
    refine gX_imul dX12_hostSize_20 ⟨by omega, by omega⟩ ?_
    refine gX_iloadn dX12_hostSize_21 rfl ?_
    refine gX_iadd dX12_hostSize_22 ⟨by omega, by omega⟩ ?_
    refine gX_iald dX12_hostSize_23 (mA8 hM) (by omega) (by omega) ?_
    refine gX_iret dX12_hostSize_24 (Or.inl rfl) ?_
    have ec : hsA V b h = V 783 ((20 * b) + h) := if_neg (by omega)
    rw [ec] at hQ
    exact hQ
  · refine gX_aloadn dX12_hostSize_4 rfl ?_
    refine gX_gR 1 dX12_hostSize_5 fdX12_7 rfl rfl hM.1 (mR1 hM) ?_
    refine gX_iloadn dX12_hostSize_8 rfl ?_
    refine gX_iald dX12_hostSize_9 (mA1 hM) (by omega) (by omega) ?_
    refine gX_goto (tgt := 24) dX12_hostSize_10 (by decide) ?_
    refine gX_iret dX12_hostSize_24 (Or.inl rfl) ?_
    have ec : hsA V b h = V 776 b := if_pos (by omega)
    rw [ec] at hQ
    exact hQ
set_option maxRecDepth 4000 in
theorem m_wordAt (hM : mdK K R) (hb : 0 ≤ b ∧ b ≤ 10) (hh : h < 20) (hi : 0 ≤ i ∧ i < 40) (hi8 : 0 ≤ h → i < 8) (hQ : Q (some (gi (wdA V b h i))) (K, R, V)) : gC l E (d + 1) iX12_wordAt [ga 775, gi b, gi h, gi i] (K, R, V) Q := by
  refine gC_of kX12_wordAt (ls := [some (ga 775), some (gi b), some (gi h), some (gi i)]) rfl (Nat.le_of_ble_eq_true rfl) ?_
  refine gX_iloadn dX12_wordAt_0 rfl ?_
  refine gX_ifge (tgt := 18) dX12_wordAt_1 (by decide) (fun w1 => ?_) (fun w1 => ?_)
  · refine gX_aloadn dX12_wordAt_18 rfl ?_
    refine gX_gR 9 dX12_wordAt_19 fdX12_34 rfl rfl hM.1 (mR9 hM) ?_
    refine gX_bipush dX12_wordAt_22 (by decide) ⟨by decide, by decide⟩ ?_
    refine gX_bipush dX12_wordAt_24 (by decide) ⟨by decide, by decide⟩ ?_
    refine gX_iloadn dX12_wordAt_26 rfl ?_
    refine gX_imul dX12_wordAt_27 ⟨by omega, by omega⟩ ?_
    refine gX_iloadn dX12_wordAt_28 rfl ?_
    refine gX_iadd dX12_wordAt_29 ⟨by omega, by omega⟩ ?_
    refine gX_imul dX12_wordAt_30 ⟨by omega, by omega⟩ ?_
    refine gX_iloadn dX12_wordAt_31 rfl ?_
    refine gX_iadd dX12_wordAt_32 ⟨by omega, by omega⟩ ?_
    refine gX_iald dX12_wordAt_33 (mA9 hM) (by omega) (by omega) ?_
    refine gX_iret dX12_wordAt_34 (Or.inl rfl) ?_
    have ec : wdA V b h i = V 784 ((8 * ((20 * b) + h)) + i) := if_neg (by omega)
    rw [ec] at hQ
    exact hQ
  · refine gX_aloadn dX12_wordAt_4 rfl ?_
    refine gX_gR 2 dX12_wordAt_5 fdX12_13 rfl rfl hM.1 (mR2 hM) ?_
    refine gX_bipush dX12_wordAt_8 (by decide) ⟨by decide, by decide⟩ ?_
    refine gX_iloadn dX12_wordAt_10 rfl ?_
    refine gX_imul dX12_wordAt_11 ⟨by omega, by omega⟩ ?_
    refine gX_iloadn dX12_wordAt_12 rfl ?_
    refine gX_iadd dX12_wordAt_13 ⟨by omega, by omega⟩ ?_
    refine gX_iald dX12_wordAt_14 (mA2 hM) (by omega) (by omega) ?_
    refine gX_goto (tgt := 34) dX12_wordAt_15 (by decide) ?_
    refine gX_iret dX12_wordAt_34 (Or.inl rfl) ?_
    have ec : wdA V b h i = V 777 ((40 * b) + i) := if_pos (by omega)
    rw [ec] at hQ
    exact hQ
set_option maxRecDepth 4000 in
theorem m_spanAt (hM : mdK K R) (hb : 0 ≤ b ∧ b ≤ 10) (hh : h < 20) (hi : 0 ≤ i ∧ i < 40) (hi8 : 0 ≤ h → i < 8) (hQ : Q (some (gi (spA V b h i))) (K, R, V)) : gC l E (d + 1) iX12_spanAt [ga 775, gi b, gi h, gi i] (K, R, V) Q := by
  refine gC_of kX12_spanAt (ls := [some (ga 775), some (gi b), some (gi h), some (gi i)]) rfl (Nat.le_of_ble_eq_true rfl) ?_
  refine gX_iloadn dX12_spanAt_0 rfl ?_
  refine gX_ifge (tgt := 18) dX12_spanAt_1 (by decide) (fun w1 => ?_) (fun w1 => ?_)
  · refine gX_aloadn dX12_spanAt_18 rfl ?_
    refine gX_gR 10 dX12_spanAt_19 fdX12_37 rfl rfl hM.1 (mR10 hM) ?_
    refine gX_bipush dX12_spanAt_22 (by decide) ⟨by decide, by decide⟩ ?_
    refine gX_bipush dX12_spanAt_24 (by decide) ⟨by decide, by decide⟩ ?_
    refine gX_iloadn dX12_spanAt_26 rfl ?_
    refine gX_imul dX12_spanAt_27 ⟨by omega, by omega⟩ ?_
    refine gX_iloadn dX12_spanAt_28 rfl ?_
    refine gX_iadd dX12_spanAt_29 ⟨by omega, by omega⟩ ?_
    refine gX_imul dX12_spanAt_30 ⟨by omega, by omega⟩ ?_
    refine gX_iloadn dX12_spanAt_31 rfl ?_
    refine gX_iadd dX12_spanAt_32 ⟨by omega, by omega⟩ ?_
    refine gX_iald dX12_spanAt_33 (mA10 hM) (by omega) (by omega) ?_
    refine gX_iret dX12_spanAt_34 (Or.inl rfl) ?_
    have ec : spA V b h i = V 785 ((8 * ((20 * b) + h)) + i) := if_neg (by omega)
    rw [ec] at hQ
    exact hQ
  · refine gX_aloadn dX12_spanAt_4 rfl ?_
    refine gX_gR 3 dX12_spanAt_5 fdX12_16 rfl rfl hM.1 (mR3 hM) ?_
    refine gX_bipush dX12_spanAt_8 (by decide) ⟨by decide, by decide⟩ ?_
    refine gX_iloadn dX12_spanAt_10 rfl ?_
    refine gX_imul dX12_spanAt_11 ⟨by omega, by omega⟩ ?_
    refine gX_iloadn dX12_spanAt_12 rfl ?_
    refine gX_iadd dX12_spanAt_13 ⟨by omega, by omega⟩ ?_
    refine gX_iald dX12_spanAt_14 (mA3 hM) (by omega) (by omega) ?_
    refine gX_goto (tgt := 34) dX12_spanAt_15 (by decide) ?_
    refine gX_iret dX12_spanAt_34 (Or.inl rfl) ?_
    have ec : spA V b h i = V 778 ((40 * b) + i) := if_pos (by omega)
    rw [ec] at hQ
    exact hQ
def spU (V : Int → Int → Int) (b h i x : Int) : Int → Int → Int := if h < 0 then gup V 778 (40 * b + i) x else gup V 785 (8 * (20 * b + h) + i) x
set_option maxRecDepth 4000 in
theorem m_setSpan {x : Int} (hM : mdK K R) (hb : 0 ≤ b ∧ b ≤ 10) (hh : h < 20) (hi : 0 ≤ i ∧ i < 40) (hi8 : 0 ≤ h → i < 8) (hQ : Q none (K, R, spU V b h i x)) : gC l E (d + 1) iX12_setSpan [ga 775, gi b, gi h, gi i, gi x] (K, R, V) Q := by
  refine gC_of kX12_setSpan (ls := [some (ga 775), some (gi b), some (gi h), some (gi i), some (gi x)]) rfl (Nat.le_of_ble_eq_true rfl) ?_
  refine gX_iloadn dX12_setSpan_0 rfl ?_
  refine gX_ifge (tgt := 20) dX12_setSpan_1 (by decide) (fun w1 => ?_) (fun w1 => ?_)
  · refine gX_aloadn dX12_setSpan_20 rfl ?_
    refine gX_gR 10 dX12_setSpan_21 fdX12_37 rfl rfl hM.1 (mR10 hM) ?_
    refine gX_bipush dX12_setSpan_24 (by decide) ⟨by decide, by decide⟩ ?_
    refine gX_bipush dX12_setSpan_26 (by decide) ⟨by decide, by decide⟩ ?_
    refine gX_iloadn dX12_setSpan_28 rfl ?_
    refine gX_imul dX12_setSpan_29 ⟨by omega, by omega⟩ ?_
    refine gX_iloadn dX12_setSpan_30 rfl ?_
    refine gX_iadd dX12_setSpan_31 ⟨by omega, by omega⟩ ?_
    refine gX_imul dX12_setSpan_32 ⟨by omega, by omega⟩ ?_
    refine gX_iloadn dX12_setSpan_33 rfl ?_
    refine gX_iadd dX12_setSpan_34 ⟨by omega, by omega⟩ ?_
    refine gX_iload dX12_setSpan_35 rfl ?_
    refine gX_iast dX12_setSpan_37 (mA10 hM) (by omega) (by omega) ?_
    refine gX_vret dX12_setSpan_38 rfl ?_
    have ec : spU V b h i x = gup V 785 ((8 * ((20 * b) + h)) + i) x := if_neg (by omega)
    rw [ec] at hQ
    exact hQ
  · refine gX_aloadn dX12_setSpan_4 rfl ?_
    refine gX_gR 3 dX12_setSpan_5 fdX12_16 rfl rfl hM.1 (mR3 hM) ?_
    refine gX_bipush dX12_setSpan_8 (by decide) ⟨by decide, by decide⟩ ?_
    refine gX_iloadn dX12_setSpan_10 rfl ?_
    refine gX_imul dX12_setSpan_11 ⟨by omega, by omega⟩ ?_
    refine gX_iloadn dX12_setSpan_12 rfl ?_
    refine gX_iadd dX12_setSpan_13 ⟨by omega, by omega⟩ ?_
    refine gX_iload dX12_setSpan_14 rfl ?_
    refine gX_iast dX12_setSpan_16 (mA3 hM) (by omega) (by omega) ?_
    refine gX_goto (tgt := 38) dX12_setSpan_17 (by decide) ?_
    refine gX_vret dX12_setSpan_38 rfl ?_
    have ec : spU V b h i x = gup V 778 ((40 * b) + i) x := if_pos (by omega)
    rw [ec] at hQ
    exact hQ
set_option maxRecDepth 4000 in
theorem m_hostMost (hM : mdK K R) (hb : 0 ≤ b ∧ b ≤ 10) (hh : h < 20) (hQ : Q (some (gi (if h < 0 then 40 else if V 780 (20 * b + h) = 0 then 4 else 8))) (K, R, V)) : gC l E (d + 1) iX12_hostMost [ga 775, gi b, gi h] (K, R, V) Q := by
  refine gC_of kX12_hostMost (ls := [some (ga 775), some (gi b), some (gi h)]) rfl (Nat.le_of_ble_eq_true rfl) ?_
  refine gX_iloadn dX12_hostMost_0 rfl ?_
  refine gX_ifge (tgt := 9) dX12_hostMost_1 (by decide) (fun w1 => ?_) (fun w1 => ?_)
  · refine gX_aloadn dX12_hostMost_9 rfl ?_
    refine gX_gR 5 dX12_hostMost_10 fdX12_22 rfl rfl hM.1 (mR5 hM) ?_
    refine gX_bipush dX12_hostMost_13 (by decide) ⟨by decide, by decide⟩ ?_
    refine gX_iloadn dX12_hostMost_15 rfl ?_
    refine gX_imul dX12_hostMost_16 ⟨by omega, by omega⟩ ?_
    refine gX_iloadn dX12_hostMost_17 rfl ?_
    refine gX_iadd dX12_hostMost_18 ⟨by omega, by omega⟩ ?_
    refine gX_iald dX12_hostMost_19 (mA5 hM) (by omega) (by omega) ?_
    refine gX_ifne (tgt := 27) dX12_hostMost_20 (by decide) (fun w2 => ?_) (fun w2 => ?_)
    · refine gX_bipush dX12_hostMost_27 (by decide) ⟨by decide, by decide⟩ ?_
      refine gX_iret dX12_hostMost_29 (Or.inl rfl) ?_
      have ec : (if h < 0 then (40 : Int) else if V 780 (20 * b + h) = 0 then 4 else 8) = 8 := (if_neg (by omega)).trans (if_neg (by omega))
      rw [ec] at hQ
      exact hQ
    · refine gX_iconst dX12_hostMost_23 ⟨by decide, by decide⟩ ?_
      refine gX_goto (tgt := 29) dX12_hostMost_24 (by decide) ?_
      refine gX_iret dX12_hostMost_29 (Or.inl rfl) ?_
      have ec : (if h < 0 then (40 : Int) else if V 780 (20 * b + h) = 0 then 4 else 8) = 4 := (if_neg (by omega)).trans (if_pos (by omega))
      rw [ec] at hQ
      exact hQ
  · refine gX_bipush dX12_hostMost_4 (by decide) ⟨by decide, by decide⟩ ?_
    refine gX_goto (tgt := 29) dX12_hostMost_6 (by decide) ?_
    refine gX_iret dX12_hostMost_29 (Or.inl rfl) ?_
    have ec : (if h < 0 then (40 : Int) else if V 780 (20 * b + h) = 0 then 4 else 8) = 40 := if_pos (by omega)
    rw [ec] at hQ
    exact hQ
end MD
