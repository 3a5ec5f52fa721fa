noncomputable def zcert_0 : List (List (Nat × Nat)) := [[(2, 90), (1, 28), (1, 29)], [(2, 91)], [(2, 92)], [(2, 93)], [(5, 213), (5, 215), (0, 50)], [(5, 217), (2, 150), (2, 151)], [(5, 219), (3, 96), (1, 4), (3, 97)], [(5, 220), (5, 221)], [(5, 224), (2, 196)], [(5, 218), (2, 182), (2, 183)]]
set_option maxRecDepth 100000 in
theorem zpool_0_ok : (Nat.beq zpool_0.length zcert_0.length && (zpool_0.zip zcert_0).all (fun q => zpB "SenateRoll$Doubts" q.1 q.2)) = true := by decide +kernel
noncomputable def zcert_1 : List (List (Nat × Nat)) := [[(2, 59), (1, 28), (1, 29)], [(2, 62)], [(2, 63)], [(2, 60)], [(2, 61)], [(2, 64)], [(2, 65)], [(2, 66)], [(2, 67)], [(1, 75)], [(5, 146), (2, 150), (2, 151)], [(5, 147), (3, 63), (3, 64)], [(5, 148), (2, 182), (2, 183)], [(5, 149), (2, 230), (2, 231)], [(5, 150), (5, 151), (5, 152)], [(5, 154), (5, 156), (0, 46)], [(5, 142), (5, 143), (5, 144)], [(5, 158), (3, 96), (1, 4), (3, 97)], [(5, 159), (5, 161), (0, 47)], [(1, 88)], [(5, 164), (5, 165)], [(5, 175), (5, 177), (0, 49)], [(5, 163), (3, 152)], [(5, 168), (5, 169)], [(5, 171), (5, 173), (0, 48)], [(5, 167)]]
set_option maxRecDepth 100000 in
theorem zpool_1_ok : (Nat.beq zpool_1.length zcert_1.length && (zpool_1.zip zcert_1).all (fun q => zpB "SenateRoll$Habits" q.1 q.2)) = true := by decide +kernel
noncomputable def zcert_2 : List (List (Nat × Nat)) := [[(1, 35), (1, 28), (1, 29)], [(1, 36), (1, 37), (1, 3)], [(1, 38), (1, 39)], [(1, 59)], [(1, 64)], [(1, 69)], [(1, 71)], [(1, 73)], [(1, 79)], [(1, 80)], [(1, 83)], [(1, 85)], [(1, 87)], [(2, 223), (2, 154), (2, 155)], [(2, 224), (1, 218), (1, 219)], [(2, 193), (2, 174), (2, 175)], [(2, 194), (2, 182), (2, 183)], [(2, 195), (2, 196)], [(6, 25), (2, 150), (2, 151)], [(6, 26), (6, 28), (0, 52)], [(6, 30), (2, 190), (2, 191)], [(6, 39)], [(6, 40)], [(6, 41), (6, 22), (6, 23)], [(6, 42), (6, 43)], [(6, 45), (6, 47), (0, 53)], [(6, 5), (6, 6), (6, 7)]]
set_option maxRecDepth 100000 in
theorem zpool_2_ok : (Nat.beq zpool_2.length zcert_2.length && (zpool_2.zip zcert_2).all (fun q => zpB "SenateRoll$House" q.1 q.2)) = true := by decide +kernel
noncomputable def zcert_3 : List (List (Nat × Nat)) := [[(1, 208), (1, 28), (1, 29)], [(1, 209), (1, 37), (1, 3)], [(1, 210), (1, 39)], [(1, 226)], [(1, 227)], [(1, 223)], [(1, 224)], [(1, 225)], [(1, 211)], [(1, 213), (1, 215), (0, 0)], [(1, 221)], [(1, 217), (1, 218), (1, 219)], [(3, 137), (3, 139), (0, 12)], [(1, 66)], [(3, 142), (2, 182), (2, 183)], [(1, 81)], [(3, 141), (2, 150), (2, 151)], [(3, 133), (3, 134), (3, 135)], [(1, 62)], [(3, 143), (3, 144), (3, 145)], [(3, 161), (3, 163), (0, 13)], [(3, 165), (1, 43), (1, 4), (1, 44)], [(3, 166), (3, 167), (3, 168)], [(3, 203), (3, 130), (3, 131)], [(3, 204), (3, 205), (3, 206)], [(3, 216), (3, 218), (0, 17)], [(3, 220)], [(3, 221), (3, 222), (1, 4), (3, 223)], [(3, 224), (3, 225), (1, 4), (3, 226)], [(4, 3), (3, 200), (3, 201)], [(4, 4), (4, 5), (4, 6)], [(1, 77)], [(4, 16), (2, 230), (2, 231)], [(4, 17), (3, 63), (3, 64)], [(4, 26), (3, 38), (3, 39)], [(4, 27), (4, 13), (4, 14)], [(3, 147), (3, 148), (3, 149)], [(3, 154), (3, 114), (3, 115)], [(3, 155), (3, 156), (3, 157)], [(3, 159), (3, 118), (3, 119)], [(3, 160), (3, 122), (3, 123)], [(3, 208), (3, 209), (3, 210)], [(3, 213)], [(3, 214)], [(3, 215), (2, 196)]]
set_option maxRecDepth 100000 in
theorem zpool_3_ok : (Nat.beq zpool_3.length zcert_3.length && (zpool_3.zip zcert_3).all (fun q => zpB "SenateRoll$Judge" q.1 q.2)) = true := by decide +kernel
noncomputable def zcert_4 : List (List (Nat × Nat)) := [[(1, 116), (1, 28), (1, 29)], [(1, 117), (1, 37), (1, 3)], [(1, 118), (1, 39)], [(1, 120)], [(1, 121)], [(1, 122)], [(1, 119)], [(3, 41), (3, 43), (0, 6)], [(3, 54), (3, 56), (0, 7)], [(1, 74)], [(3, 45), (2, 150), (2, 151)], [(3, 84), (2, 230), (2, 231)], [(3, 62), (3, 63), (3, 64)], [(3, 70), (3, 72), (0, 9)], [(3, 51), (2, 182), (2, 183)], [(3, 85), (3, 86), (3, 87)], [(3, 102), (1, 43), (1, 4), (1, 44)], [(3, 53), (1, 218), (1, 219)], [(3, 89), (3, 90)], [(3, 98), (3, 100), (0, 11)], [(1, 63)], [(3, 95), (3, 96), (1, 4), (3, 97)], [(3, 46), (3, 47), (3, 48)], [(3, 52), (2, 190), (2, 191)], [(1, 68)], [(3, 58), (3, 59), (3, 60)], [(3, 66), (3, 68), (0, 8)], [(3, 74), (3, 75), (3, 76)], [(3, 79), (3, 81), (0, 10)], [(3, 83), (2, 154), (2, 155)], [(3, 92), (3, 93), (1, 4), (3, 94)]]
set_option maxRecDepth 100000 in
theorem zpool_4_ok : (Nat.beq zpool_4.length zcert_4.length && (zpool_4.zip zcert_4).all (fun q => zpB "SenateRoll$Known" q.1 q.2)) = true := by decide +kernel
noncomputable def zcert_5 : List (List (Nat × Nat)) := [[(1, 182), (1, 28), (1, 29)], [(1, 183)], [(1, 184)], [(1, 185)], [(3, 151), (3, 152)], [(1, 186)], [(3, 212), (3, 96), (1, 4), (3, 97)], [(3, 191)], [(1, 188)], [(3, 170), (2, 182), (2, 183)], [(1, 187)], [(3, 171), (3, 173), (0, 14)], [(3, 175), (3, 177), (0, 15)], [(3, 183), (3, 185), (0, 16)], [(3, 179), (3, 180), (3, 181)], [(3, 187), (3, 188), (3, 189)], [(3, 192), (3, 193)]]
set_option maxRecDepth 100000 in
theorem zpool_5_ok : (Nat.beq zpool_5.length zcert_5.length && (zpool_5.zip zcert_5).all (fun q => zpB "SenateRoll$Machine" q.1 q.2)) = true := by decide +kernel
noncomputable def zcert_6 : List (List (Nat × Nat)) := [[(2, 31), (1, 28), (1, 29)], [(2, 33)], [(2, 34)], [(2, 35)], [(2, 36)], [(2, 32)], [(2, 38)], [(2, 37)], [(5, 110), (5, 112), (0, 44)], [(5, 116), (2, 196)], [(5, 117), (5, 118)], [(1, 67)], [(5, 114), (2, 150), (2, 151)], [(5, 115), (2, 182), (2, 183)], [(5, 120), (5, 122), (0, 45)], [(5, 124), (1, 43), (1, 4), (1, 44)]]
set_option maxRecDepth 100000 in
theorem zpool_6_ok : (Nat.beq zpool_6.length zcert_6.length && (zpool_6.zip zcert_6).all (fun q => zpB "SenateRoll$Papers" q.1 q.2)) = true := by decide +kernel
noncomputable def zcert_7 : List (List (Nat × Nat)) := [[(1, 137), (1, 28), (1, 29)], [(1, 138), (1, 37), (1, 3)], [(1, 139), (1, 39)], [(1, 140)], [(1, 141)], [(1, 142)], [(1, 143)], [(4, 47), (2, 182), (2, 183)], [(1, 144)], [(1, 146)], [(1, 149)], [(1, 150)], [(1, 147)], [(1, 151)], [(4, 48), (3, 59), (3, 60)], [(4, 49), (1, 218), (1, 219)], [(4, 50), (4, 52), (0, 18)], [(4, 189), (4, 191), (0, 25)], [(4, 210), (4, 212), (0, 30)], [(4, 193), (4, 195), (0, 26)], [(4, 197), (4, 199), (0, 27)], [(4, 201), (4, 203), (0, 28)], [(4, 206), (4, 208), (0, 29)], [(4, 125), (4, 127), (0, 23)], [(4, 214), (4, 215)], [(4, 219), (4, 221), (0, 31)], [(4, 232), (4, 234), (0, 33)], [(4, 224), (4, 226), (0, 32)], [(4, 236), (4, 238), (0, 34)], [(5, 0), (5, 2), (0, 35)], [(5, 4), (5, 6), (0, 36)], [(5, 8), (5, 10), (0, 37)], [(4, 223), (2, 150), (2, 151)], [(4, 185), (4, 187), (0, 24)], [(1, 145)], [(1, 148)], [(4, 228), (4, 229), (4, 230)], [(4, 205), (2, 154), (2, 155)], [(4, 217)], [(4, 54), (4, 56), (0, 19)], [(4, 58), (4, 59)], [(4, 61), (4, 63), (0, 20)], [(4, 65), (4, 66)], [(4, 68), (4, 70), (0, 21)], [], [(4, 130), (4, 131), (4, 132)], [(4, 72), (4, 74), (0, 22)], [], [(4, 77), (4, 78), (4, 79)], [(4, 87), (4, 88), (4, 89)]]
set_option maxRecDepth 100000 in
theorem zpool_7_ok : (Nat.beq zpool_7.length zcert_7.length && (zpool_7.zip zcert_7).all (fun q => zpB "SenateRoll$Reader" q.1 q.2)) = true := by decide +kernel
noncomputable def zcert_8 : List (List (Nat × Nat)) := [[(1, 41), (1, 28), (1, 29)], [(1, 42), (1, 43), (1, 4), (1, 44)], [(1, 45)], [(1, 46)], [(1, 47)], [(1, 48)], [(3, 78), (2, 182), (2, 183)], [(3, 50), (1, 218), (1, 219)], [(6, 9), (3, 96), (1, 4), (3, 97)], [(6, 10), (6, 12), (6, 11), (1, 21)]]
set_option maxRecDepth 100000 in
theorem zpool_8_ok : (Nat.beq zpool_8.length zcert_8.length && (zpool_8.zip zcert_8).all (fun q => zpB "SenateRoll$Rows" q.1 q.2)) = true := by decide +kernel
noncomputable def zcert_9 : List (List (Nat × Nat)) := [[(2, 4), (1, 28), (1, 29)], [(2, 8)], [(2, 5), (1, 37), (1, 3)], [(2, 6), (1, 39)], [(2, 9)], [(2, 10)], [(2, 7)], [(2, 11)], [(2, 12)], [(1, 60)], [(5, 50), (2, 182), (2, 183)], [(5, 55), (5, 56)], [(5, 93), (5, 95), (0, 43)], [(5, 58), (5, 60), (0, 38)], [(5, 66), (2, 196)], [(5, 67), (3, 96), (1, 4), (3, 97)], [(5, 68), (5, 70), (0, 40)], [(5, 62), (5, 64), (0, 39)], [(5, 72), (3, 47), (3, 48)], [(5, 73), (5, 75), (0, 41)], [(5, 78), (1, 218), (1, 219)], [(5, 77), (1, 43), (1, 4), (1, 44)], [(5, 79), (3, 75), (3, 76)], [(5, 80), (5, 82), (0, 42)]]
set_option maxRecDepth 100000 in
theorem zpool_9_ok : (Nat.beq zpool_9.length zcert_9.length && (zpool_9.zip zcert_9).all (fun q => zpB "SenateRoll$Ways" q.1 q.2)) = true := by decide +kernel
noncomputable def zcert_10 : List (List (Nat × Nat)) := [[(1, 27), (1, 28), (1, 29)], [(1, 30), (1, 31), (1, 2)], [(1, 33)], [(2, 101)], [(2, 102)], [(2, 103)], [(1, 111), (1, 112), (1, 5)], [(1, 113), (1, 114)], [(2, 105)], [(1, 132), (1, 133), (1, 6)], [(1, 78)], [(1, 134), (1, 135)], [(2, 106)], [(1, 177), (1, 178), (1, 7)], [(1, 180)], [(2, 107)], [(1, 203), (1, 204), (1, 8)], [(1, 205), (1, 206)], [(2, 108)], [(1, 239), (2, 0), (1, 9)], [(2, 1), (2, 2)], [(2, 109)], [(2, 26), (2, 27), (1, 10)], [(2, 28), (2, 29)], [(2, 110)], [(2, 54), (2, 55), (1, 11)], [(2, 56), (2, 57)], [(2, 111)], [(2, 85), (2, 86), (1, 12)], [(2, 88)], [(2, 112)], [(2, 142), (2, 143)], [(2, 145), (2, 147), (0, 1)], [(1, 61)], [(2, 153), (2, 154), (2, 155)], [(2, 157), (1, 218), (1, 219)], [(2, 162), (2, 163)], [(1, 65)], [(1, 70)], [(2, 173), (2, 174), (2, 175)], [(1, 72)], [(2, 181), (2, 182), (2, 183)], [(2, 189), (2, 190), (2, 191)], [(2, 205), (2, 207), (0, 2)], [(2, 209), (2, 211), (0, 3)], [(2, 213), (2, 214)], [(2, 216), (2, 217)], [(2, 219), (2, 220), (2, 221)], [(1, 76)], [(2, 229), (2, 230), (2, 231)], [(2, 237), (2, 239), (0, 4)], [(3, 1), (3, 3), (0, 5)], [(1, 86)], [(3, 37), (3, 38), (3, 39)], [(3, 103), (3, 63), (3, 64)], [(3, 108), (3, 86), (3, 87)], [(3, 113), (3, 114), (3, 115)], [(3, 117), (3, 118), (3, 119)], [(3, 121), (3, 122), (3, 123)], [(3, 129), (3, 130), (3, 131)], [(3, 199), (3, 200), (3, 201)], [(3, 231)], [(3, 232), (3, 205), (3, 206)], [(3, 233), (3, 180), (3, 181)], [(3, 234), (3, 188), (3, 189)], [(3, 239), (4, 0), (4, 1)], [(4, 12), (4, 13), (4, 14)], [(4, 22), (4, 23), (4, 24)], [(4, 32), (4, 33)], [(4, 43), (4, 44), (4, 45)], [(2, 149), (2, 150), (2, 151)], [(5, 17)], [(5, 18)], [(5, 19), (3, 144), (3, 145)], [(5, 20), (5, 21), (5, 22)], [(5, 24), (3, 167), (3, 168)], [(1, 82)], [(5, 29), (5, 30), (5, 31)], [(5, 41), (3, 134), (3, 135)], [(5, 46), (5, 47), (5, 48)], [(5, 51), (5, 52), (5, 53)], [(5, 88), (5, 43), (5, 44)], [(5, 89), (5, 90), (5, 91)], [(5, 105), (2, 196)], [(5, 106), (5, 107), (5, 108)], [(5, 129), (5, 102), (5, 103)], [(5, 130), (5, 131), (5, 132)], [(5, 138), (5, 139), (5, 140)], [(5, 179), (5, 143), (5, 144)], [(5, 180), (5, 181), (5, 182)], [(5, 184), (5, 185), (5, 186)], [(5, 188), (5, 189), (5, 190)], [(1, 89)], [(1, 84)], [(5, 204), (3, 59), (3, 60)], [(5, 209), (5, 210), (5, 211)], [(5, 225), (5, 226), (5, 227)], [(5, 229), (5, 230), (5, 231)], [(5, 237), (5, 239), (0, 51)], [(6, 1), (6, 2), (6, 3)], [(2, 104)], [(6, 21), (6, 22), (6, 23)], [(6, 35), (6, 36), (6, 37)]]
set_option maxRecDepth 100000 in
theorem zpool_10_ok : (Nat.beq zpool_10.length zcert_10.length && (zpool_10.zip zcert_10).all (fun q => zpB "SenateRoll" q.1 q.2)) = true := by decide +kernel
noncomputable def zcert_11 : List (List (Nat × Nat)) := [[(6, 54), (1, 28), (1, 29)], [(6, 56)], [(6, 57)], [(6, 58)], [(6, 59)], [(6, 60)], [(6, 61)], [(6, 62)], [(6, 64)], [(6, 65)], [(6, 67)], [(6, 70)], [(6, 71)], [(6, 73)], [(6, 80)], [(6, 81)], [(6, 82)], [(6, 55)], [(6, 83)], [(6, 85)], [(6, 87)], [(6, 91)], [(6, 92)], [(6, 93)], [(6, 94)], [(6, 95)], [(6, 96)], [(6, 197), (6, 198)], [(6, 200), (6, 202), (0, 54)], [(6, 208), (6, 209)], [(6, 219), (6, 221), (0, 55)], [(6, 235), (6, 236)], [(6, 231), (6, 233), (0, 56)], [(7, 13), (7, 15), (0, 59)], [(7, 25), (7, 27), (0, 61)], [(7, 37), (7, 39), (0, 63)], [(7, 2), (7, 3)], [(7, 5), (7, 7), (0, 57)], [(7, 9), (7, 11), (0, 58)], [(7, 21), (7, 23), (0, 60)], [(7, 33), (7, 35), (0, 62)], [(7, 73), (7, 75), (0, 64)], [(7, 85), (7, 87), (0, 66)], [(7, 89), (7, 91), (0, 67)], [(7, 93), (7, 95), (0, 68)], [(7, 81), (7, 83), (0, 65)], [(7, 101), (7, 103), (0, 69)], [(6, 63)], [(6, 66)], [(7, 161), (7, 162)], [(7, 164), (7, 166), (0, 78)], [(7, 157), (7, 159), (0, 77)], [(7, 168), (7, 170), (0, 79)], [(7, 180), (7, 182), (0, 82)], [(7, 172), (7, 174), (0, 80)], [(7, 176), (7, 178), (0, 81)], [(7, 133)], [(7, 134)], [(6, 69)], [(7, 138)], [(7, 139)], [(7, 140)], [(7, 141)], [(7, 142)], [(7, 143)], [(7, 144)], [(7, 145)], [(7, 146)], [(7, 147)], [(7, 148)], [(7, 149)], [(7, 150)], [(7, 151)], [(7, 152)], [(6, 68)], [(7, 129), (7, 131), (0, 75)], [(7, 135), (7, 136)], [(7, 153), (7, 155), (0, 76)], [(7, 184), (7, 186), (0, 83)], [(7, 188), (7, 189)], [(6, 76)], [(6, 74)], [(7, 203)], [(6, 75)], [(6, 72)], [(7, 199), (7, 201), (0, 86)], [(7, 204), (7, 206), (0, 87)], [(7, 121), (7, 123), (0, 73)], [(6, 77)], [(7, 228)], [(6, 78)], [(6, 79)], [(7, 117), (7, 119), (0, 72)], [(7, 125), (7, 127), (0, 74)], [(7, 191), (7, 193), (0, 84)], [(7, 195), (7, 197), (0, 85)], [(7, 224), (7, 226), (0, 91)], [(7, 229)], [(7, 230)], [(7, 113), (7, 115), (0, 71)], [(7, 216), (7, 218), (0, 89)], [(7, 220), (7, 222), (0, 90)], [(7, 212), (7, 214), (0, 88)], [(7, 109), (7, 111), (0, 70)], [(7, 235)], [(8, 4), (8, 6), (0, 92)], [(8, 16), (8, 17)], [(8, 31)], [(8, 32)], [(6, 84)], [(8, 65), (8, 67), (0, 97)], [(6, 86)], [(6, 88)], [(6, 89)], [(8, 61), (8, 63), (0, 96)], [(8, 69), (8, 71), (0, 98)], [(8, 73), (8, 75), (0, 99)], [(8, 77), (8, 78)], [(8, 57), (8, 59), (0, 95)], [(8, 49), (8, 51), (0, 93)], [(8, 53), (8, 55), (0, 94)], [(8, 84), (8, 86), (0, 100)], [(6, 90)], [(8, 104), (8, 106), (0, 103)], [(8, 112), (8, 114), (0, 105)], [(8, 108), (8, 110), (0, 104)], [(8, 116), (8, 118), (0, 106)], [(8, 96), (8, 98), (0, 101)], [(8, 100), (8, 102), (0, 102)], [(6, 97)], [(6, 98)], [(6, 99)], [(6, 100)], [(8, 140)], [(8, 145)], [(8, 132), (8, 134), (0, 108)], [(8, 136), (8, 138), (0, 109)], [(8, 141), (8, 143), (0, 110)], [(8, 128), (8, 130), (0, 107)], [(8, 162), (8, 164), (0, 111)], [(8, 178), (8, 180), (0, 112)], [(8, 187)], [(8, 186)], [(8, 188), (8, 190), (0, 113)]]
set_option maxRecDepth 100000 in
theorem zpool_11_ok : (Nat.beq zpool_11.length zcert_11.length && (zpool_11.zip zcert_11).all (fun q => zpB "SenateRollModel" q.1 q.2)) = true := by decide +kernel
noncomputable def zcert_12 : List (List (Nat × Nat)) := [[(2, 198)], [(2, 199)], [(2, 200)], [(5, 223)]]
set_option maxRecDepth 100000 in
theorem zpool_12_ok : (Nat.beq zpool_12.length zcert_12.length && (zpool_12.zip zcert_12).all (fun q => zpB "java/lang/Integer" q.1 q.2)) = true := by decide +kernel
noncomputable def zcert_13 : List (List (Nat × Nat)) := []
set_option maxRecDepth 100000 in
theorem zpool_13_ok : (Nat.beq zpool_13.length zcert_13.length && (zpool_13.zip zcert_13).all (fun q => zpB "java/util/Arrays" q.1 q.2)) = true := by decide +kernel
noncomputable def zcert_14 : List (List (Nat × Nat)) := [[(4, 91), (4, 92), (4, 93)], [(8, 192)], [(4, 95), (4, 96)], [(4, 134), (4, 135), (4, 136)], [(4, 138), (4, 78), (4, 79)], [(4, 139), (4, 140)], [(4, 81), (4, 82), (4, 83)], [(4, 85)], [(8, 193)], [(4, 101)], [(4, 103), (4, 104)]]
set_option maxRecDepth 100000 in
theorem zpool_14_ok : (Nat.beq zpool_14.length zcert_14.length && (zpool_14.zip zcert_14).all (fun q => zpB "java/lang/String" q.1 q.2)) = true := by decide +kernel
noncomputable def zcert_15 : List (List (Nat × Nat)) := [[(4, 98), (4, 99)], [(4, 142), (4, 143)], [(4, 145), (1, 43), (1, 4), (1, 44)], [(4, 146), (3, 96), (1, 4), (3, 97)], [(4, 147), (4, 148)]]
set_option maxRecDepth 100000 in
theorem zpool_15_ok : (Nat.beq zpool_15.length zcert_15.length && (zpool_15.zip zcert_15).all (fun q => zpB "java/lang/StringLatin1" q.1 q.2)) = true := by decide +kernel
noncomputable def zcert_16 : List (List (Nat × Nat)) := []
set_option maxRecDepth 100000 in
theorem zpool_16_ok : (Nat.beq zpool_16.length zcert_16.length && (zpool_16.zip zcert_16).all (fun q => zpB "jdk/internal/util/Preconditions" q.1 q.2)) = true := by decide +kernel
noncomputable def zcert_17 : List (List (Nat × Nat)) := [[(1, 22), (1, 23), (1, 1)], [(1, 24), (1, 25)], [(6, 49), (6, 50), (1, 13)], [(6, 51), (6, 52)], [(2, 138), (2, 139), (2, 140)], [(6, 193), (6, 194), (6, 195)], [(2, 158), (2, 159), (2, 160)], [(6, 204), (6, 205), (6, 206)], [(2, 165), (2, 166), (2, 167)], [(6, 211), (6, 212), (6, 213)], [(2, 169), (2, 170), (2, 171)], [(6, 215), (6, 216), (6, 217)], [(2, 177), (2, 178), (2, 179)], [(6, 223), (6, 224), (6, 225)], [(2, 185), (2, 186), (2, 187)], [(6, 227), (6, 228), (6, 229)], [(2, 201), (2, 202), (2, 203)], [(6, 238), (6, 239), (7, 0)], [(2, 225), (2, 226), (2, 227)], [(7, 17), (7, 18), (7, 19)], [(2, 233), (2, 234), (2, 235)], [(7, 29), (7, 30), (7, 31)], [(3, 5), (3, 6), (3, 7)], [(7, 41), (7, 42), (7, 43)], [(3, 9), (3, 10), (3, 11)], [(7, 45), (7, 46), (7, 47)], [(3, 13), (3, 14), (3, 15)], [(7, 49), (7, 50), (7, 51)], [(3, 17), (3, 18), (3, 19)], [(7, 53), (7, 54), (7, 55)], [(3, 21), (3, 22), (3, 23)], [(7, 57), (7, 58), (7, 59)], [(3, 25), (3, 26), (3, 27)], [(7, 61), (7, 62), (7, 63)], [(3, 29), (3, 30), (3, 31)], [(7, 65), (7, 66), (7, 67)], [(3, 33), (3, 34), (3, 35)], [(7, 69), (7, 70), (7, 71)], [(3, 104), (3, 105), (3, 106)], [(7, 77), (7, 78), (7, 79)], [(3, 109), (3, 110), (3, 111)], [(7, 97), (7, 98), (7, 99)], [(3, 125), (3, 126), (3, 127)], [(7, 105), (7, 106), (7, 107)], [(3, 195), (3, 196), (3, 197)], [(7, 208), (7, 209), (7, 210)], [(3, 227), (3, 228), (3, 229)], [(7, 231), (7, 232), (7, 233)], [(3, 235), (3, 236), (3, 237)], [(7, 236), (7, 237), (7, 238)], [(4, 8), (4, 9), (4, 10)], [(8, 0), (8, 1), (8, 2)], [(4, 18), (4, 19), (4, 20)], [(8, 8), (8, 9), (8, 10)], [(4, 28), (4, 29), (4, 30)], [(8, 12), (8, 13), (8, 14)], [(4, 35), (4, 36), (4, 37)], [(8, 19), (8, 20), (8, 21)], [(4, 39), (4, 40), (4, 41)], [(8, 23), (8, 24), (8, 25)], [(5, 13), (5, 14), (5, 15)], [(8, 27), (8, 28), (8, 29)], [(5, 25), (5, 26), (5, 27)], [(8, 33), (8, 34), (8, 35)], [(5, 33), (5, 34), (5, 35)], [(8, 37), (8, 38), (8, 39)], [(5, 37), (5, 38), (5, 39)], [(8, 41), (8, 42), (8, 43)], [(5, 42), (5, 43), (5, 44)], [(8, 45), (8, 46), (8, 47)], [(5, 84), (5, 85), (5, 86)], [(8, 80), (8, 81), (8, 82)], [(5, 97), (5, 98), (5, 99)], [(8, 88), (8, 89), (8, 90)], [(5, 101), (5, 102), (5, 103)], [(8, 92), (8, 93), (8, 94)], [(5, 125), (5, 126), (5, 127)], [(8, 120), (8, 121), (8, 122)], [(5, 134), (5, 135), (5, 136)], [(8, 124), (8, 125), (8, 126)], [(5, 192), (5, 193), (5, 194)], [(8, 146), (8, 147), (8, 148)], [(5, 196), (5, 197), (5, 198)], [(8, 150), (8, 151), (8, 152)], [(5, 200), (5, 201), (5, 202)], [(8, 154), (8, 155), (8, 156)], [(5, 205), (5, 206), (5, 207)], [(8, 158), (8, 159), (8, 160)], [(5, 233), (5, 234), (5, 235)], [(8, 166), (8, 167), (8, 168)], [(6, 13), (6, 14), (6, 15)], [(8, 170), (8, 171), (8, 172)], [(6, 17), (6, 18), (6, 19)], [(8, 174), (8, 175), (8, 176)], [(6, 31), (6, 32), (6, 33)], [(8, 182), (8, 183), (8, 184)]]
set_option maxRecDepth 100000 in
theorem zpool_17_ok : (Nat.beq zpool_17.length zcert_17.length && (zpool_17.zip zcert_17).all (fun q => zpB "SenateRollLaw" q.1 q.2)) = true := by decide +kernel
noncomputable def zmcert : List (Nat × Nat) := [(1, 12), (1, 12), (1, 12), (1, 12), (1, 12), (1, 11), (1, 11), (1, 11), (1, 11), (1, 11), (1, 11), (1, 11), (1, 11), (1, 11), (1, 11), (1, 11), (1, 11), (1, 2), (1, 2), (1, 2), (1, 2), (1, 2), (1, 2), (1, 2), (1, 2), (1, 2), (1, 2), (1, 8), (1, 8), (1, 8), (1, 8), (1, 8), (1, 8), (1, 8), (1, 8), (1, 8), (1, 8), (1, 8), (1, 8), (1, 8), (1, 5), (1, 5), (1, 5), (1, 5), (1, 5), (1, 5), (1, 5), (1, 5), (1, 5), (1, 5), (1, 5), (1, 5), (1, 5), (1, 5), (1, 5), (1, 7), (1, 7), (1, 7), (1, 7), (1, 7), (1, 7), (1, 7), (1, 7), (1, 7), (1, 7), (1, 7), (1, 7), (1, 10), (1, 10), (1, 10), (1, 10), (1, 10), (1, 10), (1, 6), (1, 6), (1, 6), (1, 6), (1, 6), (1, 6), (1, 6), (1, 6), (1, 6), (1, 6), (1, 6), (1, 6), (1, 6), (1, 6), (1, 6), (1, 6), (1, 6), (1, 6), (1, 6), (1, 6), (1, 6), (1, 6), (1, 6), (1, 6), (1, 6), (1, 6), (1, 6), (1, 3), (1, 3), (1, 3), (1, 3), (1, 3), (1, 3), (1, 3), (1, 3), (1, 3), (1, 3), (1, 3), (1, 9), (1, 9), (1, 9), (1, 9), (1, 9), (1, 9), (1, 9), (1, 9), (1, 9), (1, 9), (1, 9), (1, 1), (1, 1), (1, 1), (1, 1), (1, 1), (1, 1), (1, 1), (1, 1), (1, 1), (1, 1), (1, 1), (1, 1), (1, 1), (1, 1), (1, 1), (1, 1), (1, 1), (1, 1), (1, 1), (1, 1), (1, 1), (1, 1), (1, 1), (1, 1), (1, 1), (1, 1), (1, 1), (1, 1), (1, 1), (1, 1), (1, 1), (1, 1), (1, 1), (1, 1), (1, 1), (1, 1), (1, 1), (1, 1), (1, 1), (1, 1), (1, 1), (1, 1), (1, 1), (1, 1), (1, 1), (1, 1), (1, 1), (1, 1), (1, 1), (1, 1), (1, 1), (1, 1), (1, 1), (1, 1), (1, 1), (1, 1), (1, 1), (1, 1), (1, 13), (1, 13), (1, 13), (1, 13), (1, 13), (1, 13), (1, 13), (1, 13), (1, 13), (1, 13), (1, 13), (1, 13), (1, 13), (1, 13), (1, 13), (1, 13), (1, 13), (1, 13), (1, 13), (1, 13), (1, 13), (1, 13), (1, 13), (1, 13), (1, 13), (1, 13), (1, 13), (1, 13), (1, 13), (1, 13), (1, 13), (1, 13), (1, 13), (1, 13), (1, 13), (1, 13), (1, 13), (1, 13), (1, 13), (1, 13), (1, 13), (1, 13), (1, 13), (1, 13), (1, 13), (1, 13), (1, 13), (1, 13), (1, 13), (1, 13), (1, 13), (1, 13), (1, 13), (1, 13), (1, 13), (1, 13), (1, 13), (1, 13), (1, 13), (1, 13), (1, 13), (1, 13), (1, 13), (1, 13), (1, 13), (1, 13), (1, 13), (1, 13), (1, 13), (1, 13), (1, 13), (1, 13), (1, 13), (1, 13), (1, 13), (1, 13), (1, 13), (1, 13), (1, 13), (1, 13), (1, 13), (1, 13), (1, 13), (1, 13), (1, 13), (1, 13), (1, 13), (1, 13), (1, 13), (1, 13), (1, 13), (1, 13), (1, 13), (1, 13), (1, 13), (1, 13), (1, 13), (1, 13), (1, 13), (1, 13), (1, 13), (1, 13), (1, 13), (1, 13), (1, 13), (1, 13), (1, 13), (1, 13), (1, 13), (1, 13), (1, 13), (1, 13), (1, 13), (1, 13), (1, 13), (1, 13), (1, 14), (1, 14), (1, 15), (1, 16), (1, 16), (1, 16), (1, 16), (1, 16), (1, 16), (1, 16), (1, 17), (1, 17), (1, 17), (1, 17), (1, 18), (0, 0)]
set_option maxRecDepth 100000 in
theorem zmeth_ok : ((zPL.zip zYL).zip zmcert).all (fun q => zmB q.1.1 q.1.2 q.2) = true := by decide +kernel
set_option maxRecDepth 100000 in
theorem zmeth_c : (zPL.zip zYL).all (fun q => zmC q.1 q.2) = true := by decide +kernel
theorem zlens : zPL.length = 312 ∧ zYL.length = 312 ∧ zmcert.length = 312 := ⟨by decide +kernel, by decide +kernel, by decide +kernel⟩
set_option maxRecDepth 100000 in
theorem zcw_0 : zCw 0 := ztg (c := 2) (j := 89) (w := Cond.code yX0_init cX0_init 1 (none)) rfl rfl
set_option maxRecDepth 100000 in
theorem zmc_0 : zMc 0 := zmc_of zck_X0_init
set_option maxRecDepth 100000 in
theorem zcw_1 : zCw 1 := ztg (c := 5) (j := 228) (w := Cond.code yX0_chosen cX0_chosen 1 (some .int)) rfl rfl
set_option maxRecDepth 100000 in
theorem zmc_1 : zMc 1 := zmc_of zck_X0_chosen
set_option maxRecDepth 100000 in
theorem zcw_2 : zCw 2 := ztg (c := 5) (j := 232) (w := Cond.code yX0_rivals cX0_rivals 1 (some .int)) rfl rfl
set_option maxRecDepth 100000 in
theorem zmc_2 : zMc 2 := zmc_of zck_X0_rivals
set_option maxRecDepth 100000 in
theorem zcw_3 : zCw 3 := ztg (c := 5) (j := 212) (w := Cond.code yX0_search cX0_search 8 (none)) rfl rfl
set_option maxRecDepth 100000 in
theorem zmc_3 : zMc 3 := zmc_of zck_X0_search
set_option maxRecDepth 100000 in
theorem zcw_4 : zCw 4 := ztg (c := 5) (j := 216) (w := Cond.code yX0_prepare cX0_prepare 7 (some .int)) rfl rfl
set_option maxRecDepth 100000 in
theorem zmc_4 : zMc 4 := zmc_of zck_X0_prepare
set_option maxRecDepth 100000 in
theorem zcw_5 : zCw 5 := ztg (c := 2) (j := 58) (w := Cond.code yX1_init cX1_init 3 (none)) rfl rfl
set_option maxRecDepth 100000 in
theorem zmc_5 : zMc 5 := zmc_of zck_X1_init
set_option maxRecDepth 100000 in
theorem zcw_6 : zCw 6 := ztg (c := 5) (j := 145) (w := Cond.code yX1_gather cX1_gather 3 (none)) rfl rfl
set_option maxRecDepth 100000 in
theorem zmc_6 : zMc 6 := zmc_of zck_X1_gather
set_option maxRecDepth 100000 in
theorem zcw_7 : zCw 7 := ztg (c := 5) (j := 157) (w := Cond.code yX1_addPair cX1_addPair 4 (none)) rfl rfl
set_option maxRecDepth 100000 in
theorem zmc_7 : zMc 7 := zmc_of zck_X1_addPair
set_option maxRecDepth 100000 in
theorem zcw_8 : zCw 8 := ztg (c := 5) (j := 183) (w := Cond.code yX1_differing cX1_differing 1 (some .int)) rfl rfl
set_option maxRecDepth 100000 in
theorem zmc_8 : zMc 8 := zmc_of zck_X1_differing
set_option maxRecDepth 100000 in
theorem zcw_9 : zCw 9 := ztg (c := 5) (j := 187) (w := Cond.code yX1_above cX1_above 1 (some .int)) rfl rfl
set_option maxRecDepth 100000 in
theorem zmc_9 : zMc 9 := zmc_of zck_X1_above
set_option maxRecDepth 100000 in
theorem zcw_10 : zCw 10 := ztg (c := 5) (j := 191) (w := Cond.code yX1_meanMore cX1_meanMore 1 (some .int)) rfl rfl
set_option maxRecDepth 100000 in
theorem zmc_10 : zMc 10 := zmc_of zck_X1_meanMore
set_option maxRecDepth 100000 in
theorem zcw_11 : zCw 11 := ztg (c := 5) (j := 141) (w := Cond.code yX1_isHard cX1_isHard 4 (some .boolean)) rfl rfl
set_option maxRecDepth 100000 in
theorem zmc_11 : zMc 11 := zmc_of zck_X1_isHard
set_option maxRecDepth 100000 in
theorem zcw_12 : zCw 12 := ztg (c := 5) (j := 162) (w := Cond.code yX1_countTail cX1_countTail 3 (none)) rfl rfl
set_option maxRecDepth 100000 in
theorem zmc_12 : zMc 12 := zmc_of zck_X1_countTail
set_option maxRecDepth 100000 in
theorem zcw_13 : zCw 13 := ztg (c := 5) (j := 166) (w := Cond.code yX1_multiply cX1_multiply 5 (none)) rfl rfl
set_option maxRecDepth 100000 in
theorem zmc_13 : zMc 13 := zmc_of zck_X1_multiply
set_option maxRecDepth 100000 in
theorem zcw_14 : zCw 14 := ztg (c := 5) (j := 170) (w := Cond.code yX1_divide cX1_divide 5 (none)) rfl rfl
set_option maxRecDepth 100000 in
theorem zmc_14 : zMc 14 := zmc_of zck_X1_divide
set_option maxRecDepth 100000 in
theorem zcw_15 : zCw 15 := ztg (c := 5) (j := 174) (w := Cond.code yX1_addWaysToTail cX1_addWaysToTail 4 (none)) rfl rfl
set_option maxRecDepth 100000 in
theorem zmc_15 : zMc 15 := zmc_of zck_X1_addWaysToTail
set_option maxRecDepth 100000 in
theorem zcw_16 : zCw 16 := ztg (c := 5) (j := 178) (w := Cond.code yX1_isAtMostPower cX1_isAtMostPower 7 (some .boolean)) rfl rfl
set_option maxRecDepth 100000 in
theorem zmc_16 : zMc 16 := zmc_of zck_X1_isAtMostPower
set_option maxRecDepth 100000 in
theorem zcw_17 : zCw 17 := ztg (c := 1) (j := 34) (w := Cond.code yX2_init cX2_init 1 (none)) rfl rfl
set_option maxRecDepth 100000 in
theorem zmc_17 : zMc 17 := zmc_of zck_X2_init
set_option maxRecDepth 100000 in
theorem zcw_18 : zCw 18 := ztg (c := 2) (j := 222) (w := Cond.code yX2_enter cX2_enter 7 (some .int)) rfl rfl
set_option maxRecDepth 100000 in
theorem zmc_18 : zMc 18 := zmc_of zck_X2_enter
set_option maxRecDepth 100000 in
theorem zcw_19 : zCw 19 := ztg (c := 2) (j := 232) (w := Cond.code yX2_isA cX2_isA 3 (some .boolean)) rfl rfl
set_option maxRecDepth 100000 in
theorem zmc_19 : zMc 19 := zmc_of zck_X2_isA
set_option maxRecDepth 100000 in
theorem zcw_20 : zCw 20 := ztg (c := 2) (j := 192) (w := Cond.code yX2_isStanding cX2_isStanding 5 (some .boolean)) rfl rfl
set_option maxRecDepth 100000 in
theorem zmc_20 : zMc 20 := zmc_of zck_X2_isStanding
set_option maxRecDepth 100000 in
theorem zcw_21 : zCw 21 := ztg (c := 6) (j := 24) (w := Cond.code yX2_howMany cX2_howMany 2 (some .int)) rfl rfl
set_option maxRecDepth 100000 in
theorem zmc_21 : zMc 21 := zmc_of zck_X2_howMany
set_option maxRecDepth 100000 in
theorem zcw_22 : zCw 22 := ztg (c := 6) (j := 29) (w := Cond.code yX2_standing cX2_standing 3 (some .int)) rfl rfl
set_option maxRecDepth 100000 in
theorem zmc_22 : zMc 22 := zmc_of zck_X2_standing
set_option maxRecDepth 100000 in
theorem zcw_23 : zCw 23 := ztg (c := 6) (j := 38) (w := Cond.code yX2_sumUp cX2_sumUp 4 (some .long)) rfl rfl
set_option maxRecDepth 100000 in
theorem zmc_23 : zMc 23 := zmc_of zck_X2_sumUp
set_option maxRecDepth 100000 in
theorem zcw_24 : zCw 24 := ztg (c := 6) (j := 44) (w := Cond.code yX2_sumUpRows cX2_sumUpRows 8 (some .long)) rfl rfl
set_option maxRecDepth 100000 in
theorem zmc_24 : zMc 24 := zmc_of zck_X2_sumUpRows
set_option maxRecDepth 100000 in
theorem zcw_25 : zCw 25 := ztg (c := 6) (j := 48) (w := Cond.code yX2_sumUpTexts cX2_sumUpTexts 8 (some .long)) rfl rfl
set_option maxRecDepth 100000 in
theorem zmc_25 : zMc 25 := zmc_of zck_X2_sumUpTexts
set_option maxRecDepth 100000 in
theorem zcw_26 : zCw 26 := ztg (c := 6) (j := 4) (w := Cond.code yX2_takeOver cX2_takeOver 2 (none)) rfl rfl
set_option maxRecDepth 100000 in
theorem zmc_26 : zMc 26 := zmc_of zck_X2_takeOver
set_option maxRecDepth 100000 in
theorem zcw_27 : zCw 27 := ztg (c := 1) (j := 207) (w := Cond.code yX3_init cX3_init 4 (none)) rfl rfl
set_option maxRecDepth 100000 in
theorem zmc_27 : zMc 27 := zmc_of zck_X3_init
set_option maxRecDepth 100000 in
theorem zcw_28 : zCw 28 := ztg (c := 1) (j := 216) (w := Cond.code yX3_putCode cX3_putCode 4 (none)) rfl rfl
set_option maxRecDepth 100000 in
theorem zmc_28 : zMc 28 := zmc_of zck_X3_putCode
set_option maxRecDepth 100000 in
theorem zcw_29 : zCw 29 := ztg (c := 3) (j := 136) (w := Cond.code yX3_bindingOf cX3_bindingOf 5 (some .int)) rfl rfl
set_option maxRecDepth 100000 in
theorem zmc_29 : zMc 29 := zmc_of zck_X3_bindingOf
set_option maxRecDepth 100000 in
theorem zcw_30 : zCw 30 := ztg (c := 3) (j := 140) (w := Cond.code yX3_latestOf cX3_latestOf 8 (some .int)) rfl rfl
set_option maxRecDepth 100000 in
theorem zmc_30 : zMc 30 := zmc_of zck_X3_latestOf
set_option maxRecDepth 100000 in
theorem zcw_31 : zCw 31 := ztg (c := 3) (j := 164) (w := Cond.code yX3_rowsOf cX3_rowsOf 2 (some (.object "SenateRoll$Rows"))) rfl rfl
set_option maxRecDepth 100000 in
theorem zmc_31 : zMc 31 := zmc_of zck_X3_rowsOf
set_option maxRecDepth 100000 in
theorem zcw_32 : zCw 32 := ztg (c := 3) (j := 132) (w := Cond.code yX3_passedOf cX3_passedOf 6 (some .int)) rfl rfl
set_option maxRecDepth 100000 in
theorem zmc_32 : zMc 32 := zmc_of zck_X3_passedOf
set_option maxRecDepth 100000 in
theorem zcw_33 : zCw 33 := ztg (c := 3) (j := 202) (w := Cond.code yX3_classOf cX3_classOf 3 (some .int)) rfl rfl
set_option maxRecDepth 100000 in
theorem zmc_33 : zMc 33 := zmc_of zck_X3_classOf
set_option maxRecDepth 100000 in
theorem zcw_34 : zCw 34 := ztg (c := 3) (j := 219) (w := Cond.code yX3_classWith cX3_classWith 5 (some .int)) rfl rfl
set_option maxRecDepth 100000 in
theorem zmc_34 : zMc 34 := zmc_of zck_X3_classWith
set_option maxRecDepth 100000 in
theorem zcw_35 : zCw 35 := ztg (c := 4) (j := 2) (w := Cond.code yX3_edgeOf cX3_edgeOf 6 (some .int)) rfl rfl
set_option maxRecDepth 100000 in
theorem zmc_35 : zMc 35 := zmc_of zck_X3_edgeOf
set_option maxRecDepth 100000 in
theorem zcw_36 : zCw 36 := ztg (c := 4) (j := 15) (w := Cond.code yX3_rollOf cX3_rollOf 7 (some .int)) rfl rfl
set_option maxRecDepth 100000 in
theorem zmc_36 : zMc 36 := zmc_of zck_X3_rollOf
set_option maxRecDepth 100000 in
theorem zcw_37 : zCw 37 := ztg (c := 4) (j := 25) (w := Cond.code yX3_hangingOn cX3_hangingOn 7 (some .int)) rfl rfl
set_option maxRecDepth 100000 in
theorem zmc_37 : zMc 37 := zmc_of zck_X3_hangingOn
set_option maxRecDepth 100000 in
theorem zcw_38 : zCw 38 := ztg (c := 3) (j := 146) (w := Cond.code yX3_setInCourse cX3_setInCourse 5 (none)) rfl rfl
set_option maxRecDepth 100000 in
theorem zmc_38 : zMc 38 := zmc_of zck_X3_setInCourse
set_option maxRecDepth 100000 in
theorem zcw_39 : zCw 39 := ztg (c := 3) (j := 207) (w := Cond.code yX3_setAlone cX3_setAlone 10 (none)) rfl rfl
set_option maxRecDepth 100000 in
theorem zmc_39 : zMc 39 := zmc_of zck_X3_setAlone
set_option maxRecDepth 100000 in
theorem zcw_40 : zCw 40 := ztg (c := 1) (j := 115) (w := Cond.code yX4_init cX4_init 2 (none)) rfl rfl
set_option maxRecDepth 100000 in
theorem zmc_40 : zMc 40 := zmc_of zck_X4_init
set_option maxRecDepth 100000 in
theorem zcw_41 : zCw 41 := ztg (c := 3) (j := 40) (w := Cond.code yX4_learn cX4_learn 5 (none)) rfl rfl
set_option maxRecDepth 100000 in
theorem zmc_41 : zMc 41 := zmc_of zck_X4_learn
set_option maxRecDepth 100000 in
theorem zcw_42 : zCw 42 := ztg (c := 3) (j := 65) (w := Cond.code yX4_holds cX4_holds 2 (some .boolean)) rfl rfl
set_option maxRecDepth 100000 in
theorem zmc_42 : zMc 42 := zmc_of zck_X4_holds
set_option maxRecDepth 100000 in
theorem zcw_43 : zCw 43 := ztg (c := 5) (j := 153) (w := Cond.code yX4_secondOf cX4_secondOf 2 (some .int)) rfl rfl
set_option maxRecDepth 100000 in
theorem zmc_43 : zMc 43 := zmc_of zck_X4_secondOf
set_option maxRecDepth 100000 in
theorem zcw_44 : zCw 44 := ztg (c := 3) (j := 116) (w := Cond.code yX4_finalOf cX4_finalOf 3 (some .int)) rfl rfl
set_option maxRecDepth 100000 in
theorem zmc_44 : zMc 44 := zmc_of zck_X4_finalOf
set_option maxRecDepth 100000 in
theorem zcw_45 : zCw 45 := ztg (c := 3) (j := 120) (w := Cond.code yX4_triesOf cX4_triesOf 3 (some .int)) rfl rfl
set_option maxRecDepth 100000 in
theorem zmc_45 : zMc 45 := zmc_of zck_X4_triesOf
set_option maxRecDepth 100000 in
theorem zcw_46 : zCw 46 := ztg (c := 3) (j := 124) (w := Cond.code yX4_excusedOf cX4_excusedOf 3 (some .int)) rfl rfl
set_option maxRecDepth 100000 in
theorem zmc_46 : zMc 46 := zmc_of zck_X4_excusedOf
set_option maxRecDepth 100000 in
theorem zcw_47 : zCw 47 := ztg (c := 3) (j := 88) (w := Cond.code yX4_stepOf cX4_stepOf 4 (some .int)) rfl rfl
set_option maxRecDepth 100000 in
theorem zmc_47 : zMc 47 := zmc_of zck_X4_stepOf
set_option maxRecDepth 100000 in
theorem zcw_48 : zCw 48 := ztg (c := 3) (j := 44) (w := Cond.code yX4_sift cX4_sift 7 (none)) rfl rfl
set_option maxRecDepth 100000 in
theorem zmc_48 : zMc 48 := zmc_of zck_X4_sift
set_option maxRecDepth 100000 in
theorem zcw_49 : zCw 49 := ztg (c := 3) (j := 57) (w := Cond.code yX4_gather cX4_gather 3 (none)) rfl rfl
set_option maxRecDepth 100000 in
theorem zmc_49 : zMc 49 := zmc_of zck_X4_gather
set_option maxRecDepth 100000 in
theorem zcw_50 : zCw 50 := ztg (c := 3) (j := 69) (w := Cond.code yX4_gatherOne cX4_gatherOne 2 (none)) rfl rfl
set_option maxRecDepth 100000 in
theorem zmc_50 : zMc 50 := zmc_of zck_X4_gatherOne
set_option maxRecDepth 100000 in
theorem zcw_51 : zCw 51 := ztg (c := 3) (j := 82) (w := Cond.code yX4_bringFirst cX4_bringFirst 4 (none)) rfl rfl
set_option maxRecDepth 100000 in
theorem zmc_51 : zMc 51 := zmc_of zck_X4_bringFirst
set_option maxRecDepth 100000 in
theorem zcw_52 : zCw 52 := ztg (c := 3) (j := 73) (w := Cond.code yX4_rowOf cX4_rowOf 2 (some .int)) rfl rfl
set_option maxRecDepth 100000 in
theorem zmc_52 : zMc 52 := zmc_of zck_X4_rowOf
set_option maxRecDepth 100000 in
theorem zcw_53 : zCw 53 := ztg (c := 3) (j := 91) (w := Cond.code yX4_bothOf cX4_bothOf 2 (some .int)) rfl rfl
set_option maxRecDepth 100000 in
theorem zmc_53 : zMc 53 := zmc_of zck_X4_bothOf
set_option maxRecDepth 100000 in
theorem zcw_54 : zCw 54 := ztg (c := 3) (j := 101) (w := Cond.code yX4_scaledOf cX4_scaledOf 10 (some .int)) rfl rfl
set_option maxRecDepth 100000 in
theorem zmc_54 : zMc 54 := zmc_of zck_X4_scaledOf
set_option maxRecDepth 100000 in
theorem zcw_55 : zCw 55 := ztg (c := 1) (j := 181) (w := Cond.code yX5_init cX5_init 1 (none)) rfl rfl
set_option maxRecDepth 100000 in
theorem zmc_55 : zMc 55 := zmc_of zck_X5_init
set_option maxRecDepth 100000 in
theorem zcw_56 : zCw 56 := ztg (c := 3) (j := 150) (w := Cond.code yX5_forget cX5_forget 1 (none)) rfl rfl
set_option maxRecDepth 100000 in
theorem zmc_56 : zMc 56 := zmc_of zck_X5_forget
set_option maxRecDepth 100000 in
theorem zcw_57 : zCw 57 := ztg (c := 3) (j := 158) (w := Cond.code yX5_tell cX5_tell 4 (none)) rfl rfl
set_option maxRecDepth 100000 in
theorem zmc_57 : zMc 57 := zmc_of zck_X5_tell
set_option maxRecDepth 100000 in
theorem zcw_58 : zCw 58 := ztg (c := 3) (j := 182) (w := Cond.code yX5_told cX5_told 2 (some .long)) rfl rfl
set_option maxRecDepth 100000 in
theorem zmc_58 : zMc 58 := zmc_of zck_X5_told
set_option maxRecDepth 100000 in
theorem zcw_59 : zCw 59 := ztg (c := 3) (j := 211) (w := Cond.code yX5_rank cX5_rank 3 (none)) rfl rfl
set_option maxRecDepth 100000 in
theorem zmc_59 : zMc 59 := zmc_of zck_X5_rank
set_option maxRecDepth 100000 in
theorem zcw_60 : zCw 60 := ztg (c := 3) (j := 190) (w := Cond.code yX5_bestOf cX5_bestOf 6 (some .long)) rfl rfl
set_option maxRecDepth 100000 in
theorem zmc_60 : zMc 60 := zmc_of zck_X5_bestOf
set_option maxRecDepth 100000 in
theorem zcw_61 : zCw 61 := ztg (c := 4) (j := 7) (w := Cond.code yX5_usedMore cX5_usedMore 1 (some .boolean)) rfl rfl
set_option maxRecDepth 100000 in
theorem zmc_61 : zMc 61 := zmc_of zck_X5_usedMore
set_option maxRecDepth 100000 in
theorem zcw_62 : zCw 62 := ztg (c := 3) (j := 169) (w := Cond.code yX5_work cX5_work 8 (some .long)) rfl rfl
set_option maxRecDepth 100000 in
theorem zmc_62 : zMc 62 := zmc_of zck_X5_work
set_option maxRecDepth 100000 in
theorem zcw_63 : zCw 63 := ztg (c := 3) (j := 178) (w := Cond.code yX5_apply cX5_apply 11 (none)) rfl rfl
set_option maxRecDepth 100000 in
theorem zmc_63 : zMc 63 := zmc_of zck_X5_apply
set_option maxRecDepth 100000 in
theorem zcw_64 : zCw 64 := ztg (c := 3) (j := 194) (w := Cond.code yX5_ofTwo cX5_ofTwo 5 (some .long)) rfl rfl
set_option maxRecDepth 100000 in
theorem zmc_64 : zMc 64 := zmc_of zck_X5_ofTwo
set_option maxRecDepth 100000 in
theorem zcw_65 : zCw 65 := ztg (c := 3) (j := 174) (w := Cond.code yX5_push cX5_push 3 (none)) rfl rfl
set_option maxRecDepth 100000 in
theorem zmc_65 : zMc 65 := zmc_of zck_X5_push
set_option maxRecDepth 100000 in
theorem zcw_66 : zCw 66 := ztg (c := 3) (j := 186) (w := Cond.code yX5_pop cX5_pop 1 (some .long)) rfl rfl
set_option maxRecDepth 100000 in
theorem zmc_66 : zMc 66 := zmc_of zck_X5_pop
set_option maxRecDepth 100000 in
theorem zcw_67 : zCw 67 := ztg (c := 2) (j := 30) (w := Cond.code yX6_init cX6_init 2 (none)) rfl rfl
set_option maxRecDepth 100000 in
theorem zmc_67 : zMc 67 := zmc_of zck_X6_init
set_option maxRecDepth 100000 in
theorem zcw_68 : zCw 68 := ztg (c := 5) (j := 109) (w := Cond.code yX6_setHours cX6_setHours 4 (some .int)) rfl rfl
set_option maxRecDepth 100000 in
theorem zmc_68 : zMc 68 := zmc_of zck_X6_setHours
set_option maxRecDepth 100000 in
theorem zcw_69 : zCw 69 := ztg (c := 5) (j := 133) (w := Cond.code yX6_hourAt cX6_hourAt 2 (some .int)) rfl rfl
set_option maxRecDepth 100000 in
theorem zmc_69 : zMc 69 := zmc_of zck_X6_hourAt
set_option maxRecDepth 100000 in
theorem zcw_70 : zCw 70 := ztg (c := 5) (j := 113) (w := Cond.code yX6_sittersOf cX6_sittersOf 4 (some .int)) rfl rfl
set_option maxRecDepth 100000 in
theorem zmc_70 : zMc 70 := zmc_of zck_X6_sittersOf
set_option maxRecDepth 100000 in
theorem zcw_71 : zCw 71 := ztg (c := 5) (j := 119) (w := Cond.code yX6_place cX6_place 7 (some .boolean)) rfl rfl
set_option maxRecDepth 100000 in
theorem zmc_71 : zMc 71 := zmc_of zck_X6_place
set_option maxRecDepth 100000 in
theorem zcw_72 : zCw 72 := ztg (c := 5) (j := 123) (w := Cond.code yX6_takes cX6_takes 3 (some .boolean)) rfl rfl
set_option maxRecDepth 100000 in
theorem zmc_72 : zMc 72 := zmc_of zck_X6_takes
set_option maxRecDepth 100000 in
theorem zcw_73 : zCw 73 := ztg (c := 1) (j := 136) (w := Cond.code yX7_init cX7_init 2 (none)) rfl rfl
set_option maxRecDepth 100000 in
theorem zmc_73 : zMc 73 := zmc_of zck_X7_init
set_option maxRecDepth 100000 in
theorem zcw_74 : zCw 74 := ztg (c := 5) (j := 23) (w := Cond.code yX7_code cX7_code 1 (some (.object "SenateRoll$Rows"))) rfl rfl
set_option maxRecDepth 100000 in
theorem zmc_74 : zMc 74 := zmc_of zck_X7_code
set_option maxRecDepth 100000 in
theorem zcw_75 : zCw 75 := ztg (c := 4) (j := 46) (w := Cond.code yX7_read cX7_read 3 (some .int)) rfl rfl
set_option maxRecDepth 100000 in
theorem zmc_75 : zMc 75 := zmc_of zck_X7_read
set_option maxRecDepth 100000 in
theorem zcw_76 : zCw 76 := ztg (c := 5) (j := 32) (w := Cond.code yX7_copyTo cX7_copyTo 5 (none)) rfl rfl
set_option maxRecDepth 100000 in
theorem zmc_76 : zMc 76 := zmc_of zck_X7_copyTo
set_option maxRecDepth 100000 in
theorem zcw_77 : zCw 77 := ztg (c := 4) (j := 192) (w := Cond.code yX7_takeUnit cX7_takeUnit 1 (none)) rfl rfl
set_option maxRecDepth 100000 in
theorem zmc_77 : zMc 77 := zmc_of zck_X7_takeUnit
set_option maxRecDepth 100000 in
theorem zcw_78 : zCw 78 := ztg (c := 4) (j := 213) (w := Cond.code yX7_takeBehindUnit cX7_takeBehindUnit 1 (none)) rfl rfl
set_option maxRecDepth 100000 in
theorem zmc_78 : zMc 78 := zmc_of zck_X7_takeBehindUnit
set_option maxRecDepth 100000 in
theorem zcw_79 : zCw 79 := ztg (c := 4) (j := 196) (w := Cond.code yX7_takeNumber cX7_takeNumber 1 (none)) rfl rfl
set_option maxRecDepth 100000 in
theorem zmc_79 : zMc 79 := zmc_of zck_X7_takeNumber
set_option maxRecDepth 100000 in
theorem zcw_80 : zCw 80 := ztg (c := 4) (j := 209) (w := Cond.code yX7_openOne cX7_openOne 1 (none)) rfl rfl
set_option maxRecDepth 100000 in
theorem zmc_80 : zMc 80 := zmc_of zck_X7_openOne
set_option maxRecDepth 100000 in
theorem zcw_81 : zCw 81 := ztg (c := 5) (j := 11) (w := Cond.code yX7_closeOne cX7_closeOne 1 (none)) rfl rfl
set_option maxRecDepth 100000 in
theorem zmc_81 : zMc 81 := zmc_of zck_X7_closeOne
set_option maxRecDepth 100000 in
theorem zcw_82 : zCw 82 := ztg (c := 5) (j := 3) (w := Cond.code yX7_turnIfToElse cX7_turnIfToElse 1 (none)) rfl rfl
set_option maxRecDepth 100000 in
theorem zmc_82 : zMc 82 := zmc_of zck_X7_turnIfToElse
set_option maxRecDepth 100000 in
theorem zcw_83 : zCw 83 := ztg (c := 5) (j := 7) (w := Cond.code yX7_endCases cX7_endCases 1 (none)) rfl rfl
set_option maxRecDepth 100000 in
theorem zmc_83 : zMc 83 := zmc_of zck_X7_endCases
set_option maxRecDepth 100000 in
theorem zcw_84 : zCw 84 := ztg (c := 4) (j := 222) (w := Cond.code yX7_emitDownTo cX7_emitDownTo 3 (none)) rfl rfl
set_option maxRecDepth 100000 in
theorem zmc_84 : zMc 84 := zmc_of zck_X7_emitDownTo
set_option maxRecDepth 100000 in
theorem zcw_85 : zCw 85 := ztg (c := 4) (j := 239) (w := Cond.code yX7_pushUnless cX7_pushUnless 2 (none)) rfl rfl
set_option maxRecDepth 100000 in
theorem zmc_85 : zMc 85 := zmc_of zck_X7_pushUnless
set_option maxRecDepth 100000 in
theorem zcw_86 : zCw 86 := ztg (c := 4) (j := 235) (w := Cond.code yX7_pushOperator cX7_pushOperator 1 (none)) rfl rfl
set_option maxRecDepth 100000 in
theorem zmc_86 : zMc 86 := zmc_of zck_X7_pushOperator
set_option maxRecDepth 100000 in
theorem zcw_87 : zCw 87 := ztg (c := 4) (j := 204) (w := Cond.code yX7_push cX7_push 2 (none)) rfl rfl
set_option maxRecDepth 100000 in
theorem zmc_87 : zMc 87 := zmc_of zck_X7_push
set_option maxRecDepth 100000 in
theorem zcw_88 : zCw 88 := ztg (c := 4) (j := 227) (w := Cond.code yX7_last cX7_last 1 (some .int)) rfl rfl
set_option maxRecDepth 100000 in
theorem zmc_88 : zMc 88 := zmc_of zck_X7_last
set_option maxRecDepth 100000 in
theorem zcw_89 : zCw 89 := ztg (c := 4) (j := 200) (w := Cond.code yX7_emit cX7_emit 3 (none)) rfl rfl
set_option maxRecDepth 100000 in
theorem zmc_89 : zMc 89 := zmc_of zck_X7_emit
set_option maxRecDepth 100000 in
theorem zcw_90 : zCw 90 := ztg (c := 4) (j := 216) (w := Cond.code yX7_rankOf cX7_rankOf 1 (some .int)) rfl rfl
set_option maxRecDepth 100000 in
theorem zmc_90 : zMc 90 := zmc_of zck_X7_rankOf
set_option maxRecDepth 100000 in
theorem zcw_91 : zCw 91 := ztg (c := 4) (j := 188) (w := Cond.code yX7_failUnless cX7_failUnless 2 (none)) rfl rfl
set_option maxRecDepth 100000 in
theorem zmc_91 : zMc 91 := zmc_of zck_X7_failUnless
set_option maxRecDepth 100000 in
theorem zcw_92 : zCw 92 := ztg (c := 4) (j := 128) (w := Cond.code yX7_fail cX7_fail 2 (none)) rfl rfl
set_option maxRecDepth 100000 in
theorem zmc_92 : zMc 92 := zmc_of zck_X7_fail
set_option maxRecDepth 100000 in
theorem zcw_93 : zCw 93 := ztg (c := 4) (j := 53) (w := Cond.code yX7_nextToken cX7_nextToken 2 (none)) rfl rfl
set_option maxRecDepth 100000 in
theorem zmc_93 : zMc 93 := zmc_of zck_X7_nextToken
set_option maxRecDepth 100000 in
theorem zcw_94 : zCw 94 := ztg (c := 4) (j := 64) (w := Cond.code yX7_nextNumber cX7_nextNumber 1 (none)) rfl rfl
set_option maxRecDepth 100000 in
theorem zmc_94 : zMc 94 := zmc_of zck_X7_nextNumber
set_option maxRecDepth 100000 in
theorem zcw_95 : zCw 95 := ztg (c := 4) (j := 71) (w := Cond.code yX7_nextWord cX7_nextWord 1 (none)) rfl rfl
set_option maxRecDepth 100000 in
theorem zmc_95 : zMc 95 := zmc_of zck_X7_nextWord
set_option maxRecDepth 100000 in
theorem zcw_96 : zCw 96 := ztg (c := 4) (j := 75) (w := Cond.code yX7_wordThere cX7_wordThere 6 (some .int)) rfl rfl
set_option maxRecDepth 100000 in
theorem zmc_96 : zMc 96 := zmc_of zck_X7_wordThere
set_option maxRecDepth 100000 in
theorem zcw_97 : zCw 97 := ztg (c := 4) (j := 57) (w := Cond.code yX7_letter cX7_letter 2 (some .int)) rfl rfl
set_option maxRecDepth 100000 in
theorem zmc_97 : zMc 97 := zmc_of zck_X7_letter
set_option maxRecDepth 100000 in
theorem zcw_98 : zCw 98 := ztg (c := 4) (j := 60) (w := Cond.code yX7_isDigit cX7_isDigit 1 (some .boolean)) rfl rfl
set_option maxRecDepth 100000 in
theorem zmc_98 : zMc 98 := zmc_of zck_X7_isDigit
set_option maxRecDepth 100000 in
theorem zcw_99 : zCw 99 := ztg (c := 4) (j := 67) (w := Cond.code yX7_isLetter cX7_isLetter 1 (some .boolean)) rfl rfl
set_option maxRecDepth 100000 in
theorem zmc_99 : zMc 99 := zmc_of zck_X7_isLetter
set_option maxRecDepth 100000 in
theorem zcw_100 : zCw 100 := ztg (c := 1) (j := 40) (w := Cond.code yX8_init cX8_init 3 (none)) rfl rfl
set_option maxRecDepth 100000 in
theorem zmc_100 : zMc 100 := zmc_of zck_X8_init
set_option maxRecDepth 100000 in
theorem zcw_101 : zCw 101 := ztg (c := 2) (j := 152) (w := Cond.code yX8_size cX8_size 1 (some .int)) rfl rfl
set_option maxRecDepth 100000 in
theorem zmc_101 : zMc 101 := zmc_of zck_X8_size
set_option maxRecDepth 100000 in
theorem zcw_102 : zCw 102 := ztg (c := 2) (j := 176) (w := Cond.code yX8_has cX8_has 2 (some .boolean)) rfl rfl
set_option maxRecDepth 100000 in
theorem zmc_102 : zMc 102 := zmc_of zck_X8_has
set_option maxRecDepth 100000 in
theorem zcw_103 : zCw 103 := ztg (c := 2) (j := 156) (w := Cond.code yX8_open cX8_open 1 (some .int)) rfl rfl
set_option maxRecDepth 100000 in
theorem zmc_103 : zMc 103 := zmc_of zck_X8_open
set_option maxRecDepth 100000 in
theorem zcw_104 : zCw 104 := ztg (c := 3) (j := 61) (w := Cond.code yX8_drop cX8_drop 1 (none)) rfl rfl
set_option maxRecDepth 100000 in
theorem zmc_104 : zMc 104 := zmc_of zck_X8_drop
set_option maxRecDepth 100000 in
theorem zcw_105 : zCw 105 := ztg (c := 4) (j := 231) (w := Cond.code yX8_dropLast cX8_dropLast 1 (none)) rfl rfl
set_option maxRecDepth 100000 in
theorem zmc_105 : zMc 105 := zmc_of zck_X8_dropLast
set_option maxRecDepth 100000 in
theorem zcw_106 : zCw 106 := ztg (c := 2) (j := 184) (w := Cond.code yX8_get cX8_get 3 (some .int)) rfl rfl
set_option maxRecDepth 100000 in
theorem zmc_106 : zMc 106 := zmc_of zck_X8_get
set_option maxRecDepth 100000 in
theorem zcw_107 : zCw 107 := ztg (c := 1) (j := 220) (w := Cond.code yX8_set cX8_set 4 (none)) rfl rfl
set_option maxRecDepth 100000 in
theorem zmc_107 : zMc 107 := zmc_of zck_X8_set
set_option maxRecDepth 100000 in
theorem zcw_108 : zCw 108 := ztg (c := 3) (j := 77) (w := Cond.code yX8_add cX8_add 4 (none)) rfl rfl
set_option maxRecDepth 100000 in
theorem zmc_108 : zMc 108 := zmc_of zck_X8_add
set_option maxRecDepth 100000 in
theorem zcw_109 : zCw 109 := ztg (c := 3) (j := 49) (w := Cond.code yX8_fillColumn cX8_fillColumn 5 (none)) rfl rfl
set_option maxRecDepth 100000 in
theorem zmc_109 : zMc 109 := zmc_of zck_X8_fillColumn
set_option maxRecDepth 100000 in
theorem zcw_110 : zCw 110 := ztg (c := 6) (j := 8) (w := Cond.code yX8_takeOver cX8_takeOver 2 (none)) rfl rfl
set_option maxRecDepth 100000 in
theorem zmc_110 : zMc 110 := zmc_of zck_X8_takeOver
set_option maxRecDepth 100000 in
theorem zcw_111 : zCw 111 := ztg (c := 2) (j := 3) (w := Cond.code yX9_init cX9_init 2 (none)) rfl rfl
set_option maxRecDepth 100000 in
theorem zmc_111 : zMc 111 := zmc_of zck_X9_init
set_option maxRecDepth 100000 in
theorem zcw_112 : zCw 112 := ztg (c := 5) (j := 49) (w := Cond.code yX9_lead cX9_lead 5 (none)) rfl rfl
set_option maxRecDepth 100000 in
theorem zmc_112 : zMc 112 := zmc_of zck_X9_lead
set_option maxRecDepth 100000 in
theorem zcw_113 : zCw 113 := ztg (c := 5) (j := 54) (w := Cond.code yX9_termsFrom cX9_termsFrom 3 (some .int)) rfl rfl
set_option maxRecDepth 100000 in
theorem zmc_113 : zMc 113 := zmc_of zck_X9_termsFrom
set_option maxRecDepth 100000 in
theorem zcw_114 : zCw 114 := ztg (c := 5) (j := 92) (w := Cond.code yX9_setAt cX9_setAt 7 (some .int)) rfl rfl
set_option maxRecDepth 100000 in
theorem zmc_114 : zMc 114 := zmc_of zck_X9_setAt
set_option maxRecDepth 100000 in
theorem zcw_115 : zCw 115 := ztg (c := 5) (j := 96) (w := Cond.code yX9_greatestSet cX9_greatestSet 8 (some .int)) rfl rfl
set_option maxRecDepth 100000 in
theorem zmc_115 : zMc 115 := zmc_of zck_X9_greatestSet
set_option maxRecDepth 100000 in
theorem zcw_116 : zCw 116 := ztg (c := 5) (j := 57) (w := Cond.code yX9_fewestFor cX9_fewestFor 12 (some .int)) rfl rfl
set_option maxRecDepth 100000 in
theorem zmc_116 : zMc 116 := zmc_of zck_X9_fewestFor
set_option maxRecDepth 100000 in
theorem zcw_117 : zCw 117 := ztg (c := 5) (j := 61) (w := Cond.code yX9_freeIn cX9_freeIn 6 (some .int)) rfl rfl
set_option maxRecDepth 100000 in
theorem zmc_117 : zMc 117 := zmc_of zck_X9_freeIn
set_option maxRecDepth 100000 in
theorem zcw_118 : zCw 118 := ztg (c := 5) (j := 65) (w := Cond.code yX9_isTaught cX9_isTaught 3 (some .boolean)) rfl rfl
set_option maxRecDepth 100000 in
theorem zmc_118 : zMc 118 := zmc_of zck_X9_isTaught
set_option maxRecDepth 100000 in
theorem zcw_119 : zCw 119 := ztg (c := 5) (j := 71) (w := Cond.code yX9_leastFor cX9_leastFor 6 (some .int)) rfl rfl
set_option maxRecDepth 100000 in
theorem zmc_119 : zMc 119 := zmc_of zck_X9_leastFor
set_option maxRecDepth 100000 in
theorem zcw_120 : zCw 120 := ztg (c := 5) (j := 83) (w := Cond.code yX9_leastWithin cX9_leastWithin 5 (some .int)) rfl rfl
set_option maxRecDepth 100000 in
theorem zmc_120 : zMc 120 := zmc_of zck_X9_leastWithin
set_option maxRecDepth 100000 in
theorem zcw_121 : zCw 121 := ztg (c := 5) (j := 76) (w := Cond.code yX9_earliest cX9_earliest 7 (some .int)) rfl rfl
set_option maxRecDepth 100000 in
theorem zmc_121 : zMc 121 := zmc_of zck_X9_earliest
set_option maxRecDepth 100000 in
theorem zcw_122 : zCw 122 := ztg (c := 1) (j := 26) (w := Cond.code yX10_init cX10_init 1 (none)) rfl rfl
set_option maxRecDepth 100000 in
theorem zmc_122 : zMc 122 := zmc_of zck_X10_init
set_option maxRecDepth 100000 in
theorem zcw_123 : zCw 123 := ztg (c := 2) (j := 141) (w := Cond.code yX10_course cX10_course 6 (some .int)) rfl rfl
set_option maxRecDepth 100000 in
theorem zmc_123 : zMc 123 := zmc_of zck_X10_course
set_option maxRecDepth 100000 in
theorem zcw_124 : zCw 124 := ztg (c := 2) (j := 161) (w := Cond.code yX10_student cX10_student 3 (some .int)) rfl rfl
set_option maxRecDepth 100000 in
theorem zmc_124 : zMc 124 := zmc_of zck_X10_student
set_option maxRecDepth 100000 in
theorem zcw_125 : zCw 125 := ztg (c := 2) (j := 168) (w := Cond.code yX10_board cX10_board 4 (some .int)) rfl rfl
set_option maxRecDepth 100000 in
theorem zmc_125 : zMc 125 := zmc_of zck_X10_board
set_option maxRecDepth 100000 in
theorem zcw_126 : zCw 126 := ztg (c := 2) (j := 172) (w := Cond.code yX10_meeting cX10_meeting 6 (some .int)) rfl rfl
set_option maxRecDepth 100000 in
theorem zmc_126 : zMc 126 := zmc_of zck_X10_meeting
set_option maxRecDepth 100000 in
theorem zcw_127 : zCw 127 := ztg (c := 2) (j := 180) (w := Cond.code yX10_tear cX10_tear 4 (some .int)) rfl rfl
set_option maxRecDepth 100000 in
theorem zmc_127 : zMc 127 := zmc_of zck_X10_tear
set_option maxRecDepth 100000 in
theorem zcw_128 : zCw 128 := ztg (c := 2) (j := 188) (w := Cond.code yX10_stands cX10_stands 2 (some .int)) rfl rfl
set_option maxRecDepth 100000 in
theorem zmc_128 : zMc 128 := zmc_of zck_X10_stands
set_option maxRecDepth 100000 in
theorem zcw_129 : zCw 129 := ztg (c := 2) (j := 204) (w := Cond.code yX10_mark cX10_mark 8 (some .int)) rfl rfl
set_option maxRecDepth 100000 in
theorem zmc_129 : zMc 129 := zmc_of zck_X10_mark
set_option maxRecDepth 100000 in
theorem zcw_130 : zCw 130 := ztg (c := 2) (j := 228) (w := Cond.code yX10_second cX10_second 7 (some .int)) rfl rfl
set_option maxRecDepth 100000 in
theorem zmc_130 : zMc 130 := zmc_of zck_X10_second
set_option maxRecDepth 100000 in
theorem zcw_131 : zCw 131 := ztg (c := 2) (j := 236) (w := Cond.code yX10_moderate cX10_moderate 6 (some .int)) rfl rfl
set_option maxRecDepth 100000 in
theorem zmc_131 : zMc 131 := zmc_of zck_X10_moderate
set_option maxRecDepth 100000 in
theorem zcw_132 : zCw 132 := ztg (c := 3) (j := 8) (w := Cond.code yX10_scale cX10_scale 8 (some .int)) rfl rfl
set_option maxRecDepth 100000 in
theorem zmc_132 : zMc 132 := zmc_of zck_X10_scale
set_option maxRecDepth 100000 in
theorem zcw_133 : zCw 133 := ztg (c := 3) (j := 12) (w := Cond.code yX10_excuse cX10_excuse 6 (some .int)) rfl rfl
set_option maxRecDepth 100000 in
theorem zmc_133 : zMc 133 := zmc_of zck_X10_excuse
set_option maxRecDepth 100000 in
theorem zcw_134 : zCw 134 := ztg (c := 3) (j := 16) (w := Cond.code yX10_strike cX10_strike 5 (some .int)) rfl rfl
set_option maxRecDepth 100000 in
theorem zmc_134 : zMc 134 := zmc_of zck_X10_strike
set_option maxRecDepth 100000 in
theorem zcw_135 : zCw 135 := ztg (c := 3) (j := 20) (w := Cond.code yX10_degree cX10_degree 5 (some .int)) rfl rfl
set_option maxRecDepth 100000 in
theorem zmc_135 : zMc 135 := zmc_of zck_X10_degree
set_option maxRecDepth 100000 in
theorem zcw_136 : zCw 136 := ztg (c := 3) (j := 24) (w := Cond.code yX10_appeal cX10_appeal 5 (some .int)) rfl rfl
set_option maxRecDepth 100000 in
theorem zmc_136 : zMc 136 := zmc_of zck_X10_appeal
set_option maxRecDepth 100000 in
theorem zcw_137 : zCw 137 := ztg (c := 3) (j := 28) (w := Cond.code yX10_days cX10_days 3 (some .int)) rfl rfl
set_option maxRecDepth 100000 in
theorem zmc_137 : zMc 137 := zmc_of zck_X10_days
set_option maxRecDepth 100000 in
theorem zcw_138 : zCw 138 := ztg (c := 3) (j := 32) (w := Cond.code yX10_about cX10_about 3 (some .int)) rfl rfl
set_option maxRecDepth 100000 in
theorem zmc_138 : zMc 138 := zmc_of zck_X10_about
set_option maxRecDepth 100000 in
theorem zcw_139 : zCw 139 := ztg (c := 3) (j := 36) (w := Cond.code yX10_counts cX10_counts 3 (some .int)) rfl rfl
set_option maxRecDepth 100000 in
theorem zmc_139 : zMc 139 := zmc_of zck_X10_counts
set_option maxRecDepth 100000 in
theorem zcw_140 : zCw 140 := ztg (c := 3) (j := 107) (w := Cond.code yX10_step cX10_step 4 (some .int)) rfl rfl
set_option maxRecDepth 100000 in
theorem zmc_140 : zMc 140 := zmc_of zck_X10_step
set_option maxRecDepth 100000 in
theorem zcw_141 : zCw 141 := ztg (c := 3) (j := 112) (w := Cond.code yX10_outcome cX10_outcome 5 (some .int)) rfl rfl
set_option maxRecDepth 100000 in
theorem zmc_141 : zMc 141 := zmc_of zck_X10_outcome
set_option maxRecDepth 100000 in
theorem zcw_142 : zCw 142 := ztg (c := 3) (j := 128) (w := Cond.code yX10_passed cX10_passed 4 (some .int)) rfl rfl
set_option maxRecDepth 100000 in
theorem zmc_142 : zMc 142 := zmc_of zck_X10_passed
set_option maxRecDepth 100000 in
theorem zcw_143 : zCw 143 := ztg (c := 3) (j := 198) (w := Cond.code yX10_grade cX10_grade 4 (some .int)) rfl rfl
set_option maxRecDepth 100000 in
theorem zmc_143 : zMc 143 := zmc_of zck_X10_grade
set_option maxRecDepth 100000 in
theorem zcw_144 : zCw 144 := ztg (c := 3) (j := 230) (w := Cond.code yX10_number cX10_number 5 (some .long)) rfl rfl
set_option maxRecDepth 100000 in
theorem zmc_144 : zMc 144 := zmc_of zck_X10_number
set_option maxRecDepth 100000 in
theorem zcw_145 : zCw 145 := ztg (c := 3) (j := 238) (w := Cond.code yX10_edge cX10_edge 4 (some .int)) rfl rfl
set_option maxRecDepth 100000 in
theorem zmc_145 : zMc 145 := zmc_of zck_X10_edge
set_option maxRecDepth 100000 in
theorem zcw_146 : zCw 146 := ztg (c := 4) (j := 11) (w := Cond.code yX10_roll cX10_roll 4 (some .int)) rfl rfl
set_option maxRecDepth 100000 in
theorem zmc_146 : zMc 146 := zmc_of zck_X10_roll
set_option maxRecDepth 100000 in
theorem zcw_147 : zCw 147 := ztg (c := 4) (j := 21) (w := Cond.code yX10_hangs cX10_hangs 4 (some .int)) rfl rfl
set_option maxRecDepth 100000 in
theorem zmc_147 : zMc 147 := zmc_of zck_X10_hangs
set_option maxRecDepth 100000 in
theorem zcw_148 : zCw 148 := ztg (c := 4) (j := 31) (w := Cond.code yX10_write cX10_write 4 (some .int)) rfl rfl
set_option maxRecDepth 100000 in
theorem zmc_148 : zMc 148 := zmc_of zck_X10_write
set_option maxRecDepth 100000 in
theorem zcw_149 : zCw 149 := ztg (c := 4) (j := 38) (w := Cond.code yX10_erase cX10_erase 3 (some .int)) rfl rfl
set_option maxRecDepth 100000 in
theorem zmc_149 : zMc 149 := zmc_of zck_X10_erase
set_option maxRecDepth 100000 in
theorem zcw_150 : zCw 150 := ztg (c := 4) (j := 42) (w := Cond.code yX10_fault cX10_fault 2 (some .int)) rfl rfl
set_option maxRecDepth 100000 in
theorem zmc_150 : zMc 150 := zmc_of zck_X10_fault
set_option maxRecDepth 100000 in
theorem zcw_151 : zCw 151 := ztg (c := 5) (j := 16) (w := Cond.code yX10_tells cX10_tells 7 (some .long)) rfl rfl
set_option maxRecDepth 100000 in
theorem zmc_151 : zMc 151 := zmc_of zck_X10_tells
set_option maxRecDepth 100000 in
theorem zcw_152 : zCw 152 := ztg (c := 5) (j := 28) (w := Cond.code yX10_ordain cX10_ordain 6 (some .int)) rfl rfl
set_option maxRecDepth 100000 in
theorem zmc_152 : zMc 152 := zmc_of zck_X10_ordain
set_option maxRecDepth 100000 in
theorem zcw_153 : zCw 153 := ztg (c := 5) (j := 36) (w := Cond.code yX10_choose cX10_choose 4 (some .int)) rfl rfl
set_option maxRecDepth 100000 in
theorem zmc_153 : zMc 153 := zmc_of zck_X10_choose
set_option maxRecDepth 100000 in
theorem zcw_154 : zCw 154 := ztg (c := 5) (j := 40) (w := Cond.code yX10_binds cX10_binds 3 (some .int)) rfl rfl
set_option maxRecDepth 100000 in
theorem zmc_154 : zMc 154 := zmc_of zck_X10_binds
set_option maxRecDepth 100000 in
theorem zcw_155 : zCw 155 := ztg (c := 5) (j := 45) (w := Cond.code yX10_way cX10_way 7 (some .int)) rfl rfl
set_option maxRecDepth 100000 in
theorem zmc_155 : zMc 155 := zmc_of zck_X10_way
set_option maxRecDepth 100000 in
theorem zcw_156 : zCw 156 := ztg (c := 5) (j := 87) (w := Cond.code yX10_wayAt cX10_wayAt 9 (some .int)) rfl rfl
set_option maxRecDepth 100000 in
theorem zmc_156 : zMc 156 := zmc_of zck_X10_wayAt
set_option maxRecDepth 100000 in
theorem zcw_157 : zCw 157 := ztg (c := 5) (j := 100) (w := Cond.code yX10_sits cX10_sits 6 (some .int)) rfl rfl
set_option maxRecDepth 100000 in
theorem zmc_157 : zMc 157 := zmc_of zck_X10_sits
set_option maxRecDepth 100000 in
theorem zcw_158 : zCw 158 := ztg (c := 5) (j := 104) (w := Cond.code yX10_hours cX10_hours 3 (some .int)) rfl rfl
set_option maxRecDepth 100000 in
theorem zmc_158 : zMc 158 := zmc_of zck_X10_hours
set_option maxRecDepth 100000 in
theorem zcw_159 : zCw 159 := ztg (c := 5) (j := 128) (w := Cond.code yX10_hourOf cX10_hourOf 5 (some .int)) rfl rfl
set_option maxRecDepth 100000 in
theorem zmc_159 : zMc 159 := zmc_of zck_X10_hourOf
set_option maxRecDepth 100000 in
theorem zcw_160 : zCw 160 := ztg (c := 5) (j := 137) (w := Cond.code yX10_habit cX10_habit 4 (some .int)) rfl rfl
set_option maxRecDepth 100000 in
theorem zmc_160 : zMc 160 := zmc_of zck_X10_habit
set_option maxRecDepth 100000 in
theorem zcw_161 : zCw 161 := ztg (c := 5) (j := 195) (w := Cond.code yX10_odds cX10_odds 3 (some .int)) rfl rfl
set_option maxRecDepth 100000 in
theorem zmc_161 : zMc 161 := zmc_of zck_X10_odds
set_option maxRecDepth 100000 in
theorem zcw_162 : zCw 162 := ztg (c := 5) (j := 199) (w := Cond.code yX10_line cX10_line 4 (some .int)) rfl rfl
set_option maxRecDepth 100000 in
theorem zmc_162 : zMc 162 := zmc_of zck_X10_line
set_option maxRecDepth 100000 in
theorem zcw_163 : zCw 163 := ztg (c := 5) (j := 203) (w := Cond.code yX10_clear cX10_clear 2 (some .int)) rfl rfl
set_option maxRecDepth 100000 in
theorem zmc_163 : zMc 163 := zmc_of zck_X10_clear
set_option maxRecDepth 100000 in
theorem zcw_164 : zCw 164 := ztg (c := 5) (j := 208) (w := Cond.code yX10_doubt cX10_doubt 3 (some .int)) rfl rfl
set_option maxRecDepth 100000 in
theorem zmc_164 : zMc 164 := zmc_of zck_X10_doubt
set_option maxRecDepth 100000 in
theorem zcw_165 : zCw 165 := ztg (c := 5) (j := 236) (w := Cond.code yX10_image cX10_image 2 (some .int)) rfl rfl
set_option maxRecDepth 100000 in
theorem zmc_165 : zMc 165 := zmc_of zck_X10_image
set_option maxRecDepth 100000 in
theorem zcw_166 : zCw 166 := ztg (c := 6) (j := 16) (w := Cond.code yX10_from cX10_from 2 (some .int)) rfl rfl
set_option maxRecDepth 100000 in
theorem zmc_166 : zMc 166 := zmc_of zck_X10_from
set_option maxRecDepth 100000 in
theorem zcw_167 : zCw 167 := ztg (c := 6) (j := 20) (w := Cond.code yX10_count cX10_count 2 (some .int)) rfl rfl
set_option maxRecDepth 100000 in
theorem zmc_167 : zMc 167 := zmc_of zck_X10_count
set_option maxRecDepth 100000 in
theorem zcw_168 : zCw 168 := ztg (c := 6) (j := 34) (w := Cond.code yX10_digest cX10_digest 1 (some .long)) rfl rfl
set_option maxRecDepth 100000 in
theorem zmc_168 : zMc 168 := zmc_of zck_X10_digest
set_option maxRecDepth 100000 in
theorem zcw_169 : zCw 169 := ztg (c := 2) (j := 144) (w := Cond.code yX10_within cX10_within 3 (some .boolean)) rfl rfl
set_option maxRecDepth 100000 in
theorem zmc_169 : zMc 169 := zmc_of zck_X10_within
set_option maxRecDepth 100000 in
theorem zcw_170 : zCw 170 := ztg (c := 2) (j := 164) (w := Cond.code yX10_isDay cX10_isDay 1 (some .boolean)) rfl rfl
set_option maxRecDepth 100000 in
theorem zmc_170 : zMc 170 := zmc_of zck_X10_isDay
set_option maxRecDepth 100000 in
theorem zcw_171 : zCw 171 := ztg (c := 2) (j := 215) (w := Cond.code yX10_isMark cX10_isMark 1 (some .boolean)) rfl rfl
set_option maxRecDepth 100000 in
theorem zmc_171 : zMc 171 := zmc_of zck_X10_isMark
set_option maxRecDepth 100000 in
theorem zcw_172 : zCw 172 := ztg (c := 2) (j := 218) (w := Cond.code yX10_isExaminer cX10_isExaminer 1 (some .boolean)) rfl rfl
set_option maxRecDepth 100000 in
theorem zmc_172 : zMc 172 := zmc_of zck_X10_isExaminer
set_option maxRecDepth 100000 in
theorem zcw_173 : zCw 173 := ztg (c := 4) (j := 34) (w := Cond.code yX10_isText cX10_isText 1 (some .boolean)) rfl rfl
set_option maxRecDepth 100000 in
theorem zmc_173 : zMc 173 := zmc_of zck_X10_isText
set_option maxRecDepth 100000 in
theorem zcw_174 : zCw 174 := ztg (c := 2) (j := 208) (w := Cond.code yX10_isStudent cX10_isStudent 2 (some .boolean)) rfl rfl
set_option maxRecDepth 100000 in
theorem zmc_174 : zMc 174 := zmc_of zck_X10_isStudent
set_option maxRecDepth 100000 in
theorem zcw_175 : zCw 175 := ztg (c := 2) (j := 212) (w := Cond.code yX10_isCourse cX10_isCourse 2 (some .boolean)) rfl rfl
set_option maxRecDepth 100000 in
theorem zmc_175 : zMc 175 := zmc_of zck_X10_isCourse
set_option maxRecDepth 100000 in
theorem zcw_176 : zCw 176 := ztg (c := 6) (j := 0) (w := Cond.code yX10_imageAt cX10_imageAt 2 (some (.object "SenateRoll$House"))) rfl rfl
set_option maxRecDepth 100000 in
theorem zmc_176 : zMc 176 := zmc_of zck_X10_imageAt
set_option maxRecDepth 100000 in
theorem zcw_177 : zCw 177 := ztg (c := 2) (j := 148) (w := Cond.code yX10_allCourses cX10_allCourses 1 (some .int)) rfl rfl
set_option maxRecDepth 100000 in
theorem zmc_177 : zMc 177 := zmc_of zck_X10_allCourses
set_option maxRecDepth 100000 in
theorem zcw_178 : zCw 178 := ztg (c := 3) (j := 0) (w := Cond.code yX10_isKnownAfter cX10_isKnownAfter 3 (some .boolean)) rfl rfl
set_option maxRecDepth 100000 in
theorem zmc_178 : zMc 178 := zmc_of zck_X10_isKnownAfter
set_option maxRecDepth 100000 in
theorem zcw_179 : zCw 179 := ztg (c := 3) (j := 4) (w := Cond.code yX10_enterBy cX10_enterBy 4 (some .int)) rfl rfl
set_option maxRecDepth 100000 in
theorem zmc_179 : zMc 179 := zmc_of zck_X10_enterBy
set_option maxRecDepth 100000 in
theorem zcw_180 : zCw 180 := ztg (c := 6) (j := 199) (w := Cond.code yX11_in cX11_in 3 (some .boolean)) rfl rfl
set_option maxRecDepth 100000 in
theorem zmc_180 : zMc 180 := zmc_of zck_X11_in
set_option maxRecDepth 100000 in
theorem zcw_181 : zCw 181 := ztg (c := 6) (j := 53) (w := Cond.code yX11_init cX11_init 1 (none)) rfl rfl
set_option maxRecDepth 100000 in
theorem zmc_181 : zMc 181 := zmc_of zck_X11_init
set_option maxRecDepth 100000 in
theorem zcw_182 : zCw 182 := ztg (c := 6) (j := 222) (w := Cond.code yX11_is cX11_is 3 (some .boolean)) rfl rfl
set_option maxRecDepth 100000 in
theorem zmc_182 : zMc 182 := zmc_of zck_X11_is
set_option maxRecDepth 100000 in
theorem zcw_183 : zCw 183 := ztg (c := 6) (j := 203) (w := Cond.code yX11_one cX11_one 2 (some .int)) rfl rfl
set_option maxRecDepth 100000 in
theorem zmc_183 : zMc 183 := zmc_of zck_X11_one
set_option maxRecDepth 100000 in
theorem zcw_184 : zCw 184 := ztg (c := 6) (j := 210) (w := Cond.code yX11_isDay cX11_isDay 1 (some .boolean)) rfl rfl
set_option maxRecDepth 100000 in
theorem zmc_184 : zMc 184 := zmc_of zck_X11_isDay
set_option maxRecDepth 100000 in
theorem zcw_185 : zCw 185 := ztg (c := 7) (j := 4) (w := Cond.code yX11_isMarkNumber cX11_isMarkNumber 1 (some .boolean)) rfl rfl
set_option maxRecDepth 100000 in
theorem zmc_185 : zMc 185 := zmc_of zck_X11_isMarkNumber
set_option maxRecDepth 100000 in
theorem zcw_186 : zCw 186 := ztg (c := 6) (j := 237) (w := Cond.code yX11_sizeOf cX11_sizeOf 3 (some .int)) rfl rfl
set_option maxRecDepth 100000 in
theorem zmc_186 : zMc 186 := zmc_of zck_X11_sizeOf
set_option maxRecDepth 100000 in
theorem zcw_187 : zCw 187 := ztg (c := 6) (j := 196) (w := Cond.code yX11_course cX11_course 6 (some .int)) rfl rfl
set_option maxRecDepth 100000 in
theorem zmc_187 : zMc 187 := zmc_of zck_X11_course
set_option maxRecDepth 100000 in
theorem zcw_188 : zCw 188 := ztg (c := 6) (j := 207) (w := Cond.code yX11_student cX11_student 3 (some .int)) rfl rfl
set_option maxRecDepth 100000 in
theorem zmc_188 : zMc 188 := zmc_of zck_X11_student
set_option maxRecDepth 100000 in
theorem zcw_189 : zCw 189 := ztg (c := 6) (j := 214) (w := Cond.code yX11_board cX11_board 3 (some .int)) rfl rfl
set_option maxRecDepth 100000 in
theorem zmc_189 : zMc 189 := zmc_of zck_X11_board
set_option maxRecDepth 100000 in
theorem zcw_190 : zCw 190 := ztg (c := 6) (j := 218) (w := Cond.code yX11_meeting cX11_meeting 6 (some .int)) rfl rfl
set_option maxRecDepth 100000 in
theorem zmc_190 : zMc 190 := zmc_of zck_X11_meeting
set_option maxRecDepth 100000 in
theorem zcw_191 : zCw 191 := ztg (c := 6) (j := 226) (w := Cond.code yX11_tear cX11_tear 4 (some .int)) rfl rfl
set_option maxRecDepth 100000 in
theorem zmc_191 : zMc 191 := zmc_of zck_X11_tear
set_option maxRecDepth 100000 in
theorem zcw_192 : zCw 192 := ztg (c := 6) (j := 234) (w := Cond.code yX11_isStanding cX11_isStanding 4 (some .boolean)) rfl rfl
set_option maxRecDepth 100000 in
theorem zmc_192 : zMc 192 := zmc_of zck_X11_isStanding
set_option maxRecDepth 100000 in
theorem zcw_193 : zCw 193 := ztg (c := 6) (j := 230) (w := Cond.code yX11_stands cX11_stands 2 (some .int)) rfl rfl
set_option maxRecDepth 100000 in
theorem zmc_193 : zMc 193 := zmc_of zck_X11_stands
set_option maxRecDepth 100000 in
theorem zcw_194 : zCw 194 := ztg (c := 7) (j := 28) (w := Cond.code yX11_act cX11_act 3 (some .int)) rfl rfl
set_option maxRecDepth 100000 in
theorem zmc_194 : zMc 194 := zmc_of zck_X11_act
set_option maxRecDepth 100000 in
theorem zcw_195 : zCw 195 := ztg (c := 7) (j := 16) (w := Cond.code yX11_puts cX11_puts 3 (none)) rfl rfl
set_option maxRecDepth 100000 in
theorem zmc_195 : zMc 195 := zmc_of zck_X11_puts
set_option maxRecDepth 100000 in
theorem zcw_196 : zCw 196 := ztg (c := 7) (j := 12) (w := Cond.code yX11_begins cX11_begins 6 (none)) rfl rfl
set_option maxRecDepth 100000 in
theorem zmc_196 : zMc 196 := zmc_of zck_X11_begins
set_option maxRecDepth 100000 in
theorem zcw_197 : zCw 197 := ztg (c := 7) (j := 8) (w := Cond.code yX11_isFull cX11_isFull 1 (some .boolean)) rfl rfl
set_option maxRecDepth 100000 in
theorem zmc_197 : zMc 197 := zmc_of zck_X11_isFull
set_option maxRecDepth 100000 in
theorem zcw_198 : zCw 198 := ztg (c := 7) (j := 24) (w := Cond.code yX11_isMark cX11_isMark 2 (some .boolean)) rfl rfl
set_option maxRecDepth 100000 in
theorem zmc_198 : zMc 198 := zmc_of zck_X11_isMark
set_option maxRecDepth 100000 in
theorem zcw_199 : zCw 199 := ztg (c := 7) (j := 40) (w := Cond.code yX11_dayOf cX11_dayOf 2 (some .int)) rfl rfl
set_option maxRecDepth 100000 in
theorem zmc_199 : zMc 199 := zmc_of zck_X11_dayOf
set_option maxRecDepth 100000 in
theorem zcw_200 : zCw 200 := ztg (c := 7) (j := 36) (w := Cond.code yX11_isBy cX11_isBy 3 (some .boolean)) rfl rfl
set_option maxRecDepth 100000 in
theorem zmc_200 : zMc 200 := zmc_of zck_X11_isBy
set_option maxRecDepth 100000 in
theorem zcw_201 : zCw 201 := ztg (c := 7) (j := 1) (w := Cond.code yX11_mark cX11_mark 7 (some .int)) rfl rfl
set_option maxRecDepth 100000 in
theorem zmc_201 : zMc 201 := zmc_of zck_X11_mark
set_option maxRecDepth 100000 in
theorem zcw_202 : zCw 202 := ztg (c := 7) (j := 20) (w := Cond.code yX11_second cX11_second 6 (some .int)) rfl rfl
set_option maxRecDepth 100000 in
theorem zmc_202 : zMc 202 := zmc_of zck_X11_second
set_option maxRecDepth 100000 in
theorem zcw_203 : zCw 203 := ztg (c := 7) (j := 32) (w := Cond.code yX11_moderate cX11_moderate 5 (some .int)) rfl rfl
set_option maxRecDepth 100000 in
theorem zmc_203 : zMc 203 := zmc_of zck_X11_moderate
set_option maxRecDepth 100000 in
theorem zcw_204 : zCw 204 := ztg (c := 7) (j := 44) (w := Cond.code yX11_scale cX11_scale 7 (some .int)) rfl rfl
set_option maxRecDepth 100000 in
theorem zmc_204 : zMc 204 := zmc_of zck_X11_scale
set_option maxRecDepth 100000 in
theorem zcw_205 : zCw 205 := ztg (c := 7) (j := 48) (w := Cond.code yX11_excuse cX11_excuse 5 (some .int)) rfl rfl
set_option maxRecDepth 100000 in
theorem zmc_205 : zMc 205 := zmc_of zck_X11_excuse
set_option maxRecDepth 100000 in
theorem zcw_206 : zCw 206 := ztg (c := 7) (j := 52) (w := Cond.code yX11_strike cX11_strike 4 (some .int)) rfl rfl
set_option maxRecDepth 100000 in
theorem zmc_206 : zMc 206 := zmc_of zck_X11_strike
set_option maxRecDepth 100000 in
theorem zcw_207 : zCw 207 := ztg (c := 7) (j := 56) (w := Cond.code yX11_degree cX11_degree 4 (some .int)) rfl rfl
set_option maxRecDepth 100000 in
theorem zmc_207 : zMc 207 := zmc_of zck_X11_degree
set_option maxRecDepth 100000 in
theorem zcw_208 : zCw 208 := ztg (c := 7) (j := 60) (w := Cond.code yX11_appeal cX11_appeal 3 (some .int)) rfl rfl
set_option maxRecDepth 100000 in
theorem zmc_208 : zMc 208 := zmc_of zck_X11_appeal
set_option maxRecDepth 100000 in
theorem zcw_209 : zCw 209 := ztg (c := 7) (j := 64) (w := Cond.code yX11_days cX11_days 3 (some .int)) rfl rfl
set_option maxRecDepth 100000 in
theorem zmc_209 : zMc 209 := zmc_of zck_X11_days
set_option maxRecDepth 100000 in
theorem zcw_210 : zCw 210 := ztg (c := 7) (j := 68) (w := Cond.code yX11_about cX11_about 3 (some .int)) rfl rfl
set_option maxRecDepth 100000 in
theorem zmc_210 : zMc 210 := zmc_of zck_X11_about
set_option maxRecDepth 100000 in
theorem zcw_211 : zCw 211 := ztg (c := 7) (j := 76) (w := Cond.code yX11_finds cX11_finds 3 (none)) rfl rfl
set_option maxRecDepth 100000 in
theorem zmc_211 : zMc 211 := zmc_of zck_X11_finds
set_option maxRecDepth 100000 in
theorem zcw_212 : zCw 212 := ztg (c := 7) (j := 72) (w := Cond.code yX11_counts cX11_counts 3 (some .int)) rfl rfl
set_option maxRecDepth 100000 in
theorem zmc_212 : zMc 212 := zmc_of zck_X11_counts
set_option maxRecDepth 100000 in
theorem zcw_213 : zCw 213 := ztg (c := 7) (j := 88) (w := Cond.code yX11_lastOf cX11_lastOf 4 (some .int)) rfl rfl
set_option maxRecDepth 100000 in
theorem zmc_213 : zMc 213 := zmc_of zck_X11_lastOf
set_option maxRecDepth 100000 in
theorem zcw_214 : zCw 214 := ztg (c := 7) (j := 92) (w := Cond.code yX11_scaledFor cX11_scaledFor 3 (some .int)) rfl rfl
set_option maxRecDepth 100000 in
theorem zmc_214 : zMc 214 := zmc_of zck_X11_scaledFor
set_option maxRecDepth 100000 in
theorem zcw_215 : zCw 215 := ztg (c := 7) (j := 96) (w := Cond.code yX11_isLater cX11_isLater 4 (some .boolean)) rfl rfl
set_option maxRecDepth 100000 in
theorem zmc_215 : zMc 215 := zmc_of zck_X11_isLater
set_option maxRecDepth 100000 in
theorem zcw_216 : zCw 216 := ztg (c := 7) (j := 84) (w := Cond.code yX11_stepOf cX11_stepOf 8 (some .int)) rfl rfl
set_option maxRecDepth 100000 in
theorem zmc_216 : zMc 216 := zmc_of zck_X11_stepOf
set_option maxRecDepth 100000 in
theorem zcw_217 : zCw 217 := ztg (c := 7) (j := 80) (w := Cond.code yX11_step cX11_step 4 (some .int)) rfl rfl
set_option maxRecDepth 100000 in
theorem zmc_217 : zMc 217 := zmc_of zck_X11_step
set_option maxRecDepth 100000 in
theorem zcw_218 : zCw 218 := ztg (c := 7) (j := 104) (w := Cond.code yX11_findCourses cX11_findCourses 5 (none)) rfl rfl
set_option maxRecDepth 100000 in
theorem zmc_218 : zMc 218 := zmc_of zck_X11_findCourses
set_option maxRecDepth 100000 in
theorem zcw_219 : zCw 219 := ztg (c := 7) (j := 100) (w := Cond.code yX11_outcome cX11_outcome 5 (some .int)) rfl rfl
set_option maxRecDepth 100000 in
theorem zmc_219 : zMc 219 := zmc_of zck_X11_outcome
set_option maxRecDepth 100000 in
theorem zcw_220 : zCw 220 := ztg (c := 7) (j := 167) (w := Cond.code yX11_emits cX11_emits 3 (none)) rfl rfl
set_option maxRecDepth 100000 in
theorem zmc_220 : zMc 220 := zmc_of zck_X11_emits
set_option maxRecDepth 100000 in
theorem zcw_221 : zCw 221 := ztg (c := 7) (j := 163) (w := Cond.code yX11_holds cX11_holds 1 (some .int)) rfl rfl
set_option maxRecDepth 100000 in
theorem zmc_221 : zMc 221 := zmc_of zck_X11_holds
set_option maxRecDepth 100000 in
theorem zcw_222 : zCw 222 := ztg (c := 7) (j := 171) (w := Cond.code yX11_top cX11_top 1 (some .int)) rfl rfl
set_option maxRecDepth 100000 in
theorem zmc_222 : zMc 222 := zmc_of zck_X11_top
set_option maxRecDepth 100000 in
theorem zcw_223 : zCw 223 := ztg (c := 7) (j := 175) (w := Cond.code yX11_waitsWith cX11_waitsWith 2 (none)) rfl rfl
set_option maxRecDepth 100000 in
theorem zmc_223 : zMc 223 := zmc_of zck_X11_waitsWith
set_option maxRecDepth 100000 in
theorem zcw_224 : zCw 224 := ztg (c := 7) (j := 160) (w := Cond.code yX11_settles cX11_settles 2 (none)) rfl rfl
set_option maxRecDepth 100000 in
theorem zmc_224 : zMc 224 := zmc_of zck_X11_settles
set_option maxRecDepth 100000 in
theorem zcw_225 : zCw 225 := ztg (c := 7) (j := 183) (w := Cond.code yX11_settlesCase cX11_settlesCase 1 (some .boolean)) rfl rfl
set_option maxRecDepth 100000 in
theorem zmc_225 : zMc 225 := zmc_of zck_X11_settlesCase
set_option maxRecDepth 100000 in
theorem zcw_226 : zCw 226 := ztg (c := 7) (j := 179) (w := Cond.code yX11_settlesValue cX11_settlesValue 1 (some .boolean)) rfl rfl
set_option maxRecDepth 100000 in
theorem zmc_226 : zMc 226 := zmc_of zck_X11_settlesValue
set_option maxRecDepth 100000 in
theorem zcw_227 : zCw 227 := ztg (c := 7) (j := 190) (w := Cond.code yX11_signOf cX11_signOf 1 (some .int)) rfl rfl
set_option maxRecDepth 100000 in
theorem zmc_227 : zMc 227 := zmc_of zck_X11_signOf
set_option maxRecDepth 100000 in
theorem zcw_228 : zCw 228 := ztg (c := 7) (j := 156) (w := Cond.code yX11_goesOn cX11_goesOn 3 (some .boolean)) rfl rfl
set_option maxRecDepth 100000 in
theorem zmc_228 : zMc 228 := zmc_of zck_X11_goesOn
set_option maxRecDepth 100000 in
theorem zcw_229 : zCw 229 := ztg (c := 7) (j := 132) (w := Cond.code yX11_wordAt cX11_wordAt 7 (some .long)) rfl rfl
set_option maxRecDepth 100000 in
theorem zmc_229 : zMc 229 := zmc_of zck_X11_wordAt
set_option maxRecDepth 100000 in
theorem zcw_230 : zCw 230 := ztg (c := 7) (j := 137) (w := Cond.code yX11_wordOf cX11_wordOf 2 (some .int)) rfl rfl
set_option maxRecDepth 100000 in
theorem zmc_230 : zMc 230 := zmc_of zck_X11_wordOf
set_option maxRecDepth 100000 in
theorem zcw_231 : zCw 231 := ztg (c := 7) (j := 128) (w := Cond.code yX11_reads cX11_reads 8 (some .int)) rfl rfl
set_option maxRecDepth 100000 in
theorem zmc_231 : zMc 231 := zmc_of zck_X11_reads
set_option maxRecDepth 100000 in
theorem zcw_232 : zCw 232 := ztg (c := 7) (j := 187) (w := Cond.code yX11_closes cX11_closes 1 (some .int)) rfl rfl
set_option maxRecDepth 100000 in
theorem zmc_232 : zMc 232 := zmc_of zck_X11_closes
set_option maxRecDepth 100000 in
theorem zcw_233 : zCw 233 := ztg (c := 7) (j := 202) (w := Cond.code yX11_bestOf cX11_bestOf 6 (some .long)) rfl rfl
set_option maxRecDepth 100000 in
theorem zmc_233 : zMc 233 := zmc_of zck_X11_bestOf
set_option maxRecDepth 100000 in
theorem zcw_234 : zCw 234 := ztg (c := 7) (j := 207) (w := Cond.code yX11_twoOf cX11_twoOf 6 (some .long)) rfl rfl
set_option maxRecDepth 100000 in
theorem zmc_234 : zMc 234 := zmc_of zck_X11_twoOf
set_option maxRecDepth 100000 in
theorem zcw_235 : zCw 235 := ztg (c := 7) (j := 198) (w := Cond.code yX11_goes cX11_goes 3 (some .long)) rfl rfl
set_option maxRecDepth 100000 in
theorem zmc_235 : zMc 235 := zmc_of zck_X11_goes
set_option maxRecDepth 100000 in
theorem zcw_236 : zCw 236 := ztg (c := 7) (j := 124) (w := Cond.code yX11_latestOf cX11_latestOf 7 (some .int)) rfl rfl
set_option maxRecDepth 100000 in
theorem zmc_236 : zMc 236 := zmc_of zck_X11_latestOf
set_option maxRecDepth 100000 in
theorem zcw_237 : zCw 237 := ztg (c := 7) (j := 120) (w := Cond.code yX11_bindsOf cX11_bindsOf 5 (some .int)) rfl rfl
set_option maxRecDepth 100000 in
theorem zmc_237 : zMc 237 := zmc_of zck_X11_bindsOf
set_option maxRecDepth 100000 in
theorem zcw_238 : zCw 238 := ztg (c := 7) (j := 194) (w := Cond.code yX11_courseNames cX11_courseNames 3 (none)) rfl rfl
set_option maxRecDepth 100000 in
theorem zmc_238 : zMc 238 := zmc_of zck_X11_courseNames
set_option maxRecDepth 100000 in
theorem zcw_239 : zCw 239 := ztg (c := 7) (j := 227) (w := Cond.code yX11_aloneNames cX11_aloneNames 2 (none)) rfl rfl
set_option maxRecDepth 100000 in
theorem zmc_239 : zMc 239 := zmc_of zck_X11_aloneNames
set_option maxRecDepth 100000 in
theorem zcw_240 : zCw 240 := ztg (c := 7) (j := 116) (w := Cond.code yX11_findStudent cX11_findStudent 7 (none)) rfl rfl
set_option maxRecDepth 100000 in
theorem zmc_240 : zMc 240 := zmc_of zck_X11_findStudent
set_option maxRecDepth 100000 in
theorem zcw_241 : zCw 241 := ztg (c := 7) (j := 223) (w := Cond.code yX11_classOf cX11_classOf 4 (some .int)) rfl rfl
set_option maxRecDepth 100000 in
theorem zmc_241 : zMc 241 := zmc_of zck_X11_classOf
set_option maxRecDepth 100000 in
theorem zcw_242 : zCw 242 := ztg (c := 7) (j := 219) (w := Cond.code yX11_readsClass cX11_readsClass 4 (some .int)) rfl rfl
set_option maxRecDepth 100000 in
theorem zmc_242 : zMc 242 := zmc_of zck_X11_readsClass
set_option maxRecDepth 100000 in
theorem zcw_243 : zCw 243 := ztg (c := 7) (j := 215) (w := Cond.code yX11_gradeOf cX11_gradeOf 3 (some .int)) rfl rfl
set_option maxRecDepth 100000 in
theorem zmc_243 : zMc 243 := zmc_of zck_X11_gradeOf
set_option maxRecDepth 100000 in
theorem zcw_244 : zCw 244 := ztg (c := 8) (j := 7) (w := Cond.code yX11_rollOf cX11_rollOf 6 (some .int)) rfl rfl
set_option maxRecDepth 100000 in
theorem zmc_244 : zMc 244 := zmc_of zck_X11_rollOf
set_option maxRecDepth 100000 in
theorem zcw_245 : zCw 245 := ztg (c := 7) (j := 112) (w := Cond.code yX11_isAsked cX11_isAsked 4 (some .boolean)) rfl rfl
set_option maxRecDepth 100000 in
theorem zmc_245 : zMc 245 := zmc_of zck_X11_isAsked
set_option maxRecDepth 100000 in
theorem zcw_246 : zCw 246 := ztg (c := 7) (j := 108) (w := Cond.code yX11_passed cX11_passed 4 (some .int)) rfl rfl
set_option maxRecDepth 100000 in
theorem zmc_246 : zMc 246 := zmc_of zck_X11_passed
set_option maxRecDepth 100000 in
theorem zcw_247 : zCw 247 := ztg (c := 7) (j := 211) (w := Cond.code yX11_grade cX11_grade 4 (some .int)) rfl rfl
set_option maxRecDepth 100000 in
theorem zmc_247 : zMc 247 := zmc_of zck_X11_grade
set_option maxRecDepth 100000 in
theorem zcw_248 : zCw 248 := ztg (c := 7) (j := 234) (w := Cond.code yX11_number cX11_number 5 (some .long)) rfl rfl
set_option maxRecDepth 100000 in
theorem zmc_248 : zMc 248 := zmc_of zck_X11_number
set_option maxRecDepth 100000 in
theorem zcw_249 : zCw 249 := ztg (c := 7) (j := 239) (w := Cond.code yX11_edge cX11_edge 7 (some .int)) rfl rfl
set_option maxRecDepth 100000 in
theorem zmc_249 : zMc 249 := zmc_of zck_X11_edge
set_option maxRecDepth 100000 in
theorem zcw_250 : zCw 250 := ztg (c := 8) (j := 3) (w := Cond.code yX11_roll cX11_roll 4 (some .int)) rfl rfl
set_option maxRecDepth 100000 in
theorem zmc_250 : zMc 250 := zmc_of zck_X11_roll
set_option maxRecDepth 100000 in
theorem zcw_251 : zCw 251 := ztg (c := 8) (j := 11) (w := Cond.code yX11_hangs cX11_hangs 7 (some .int)) rfl rfl
set_option maxRecDepth 100000 in
theorem zmc_251 : zMc 251 := zmc_of zck_X11_hangs
set_option maxRecDepth 100000 in
theorem zcw_252 : zCw 252 := ztg (c := 8) (j := 18) (w := Cond.code yX11_isText cX11_isText 1 (some .boolean)) rfl rfl
set_option maxRecDepth 100000 in
theorem zmc_252 : zMc 252 := zmc_of zck_X11_isText
set_option maxRecDepth 100000 in
theorem zcw_253 : zCw 253 := ztg (c := 8) (j := 15) (w := Cond.code yX11_write cX11_write 4 (some .int)) rfl rfl
set_option maxRecDepth 100000 in
theorem zmc_253 : zMc 253 := zmc_of zck_X11_write
set_option maxRecDepth 100000 in
theorem zcw_254 : zCw 254 := ztg (c := 8) (j := 22) (w := Cond.code yX11_erase cX11_erase 3 (some .int)) rfl rfl
set_option maxRecDepth 100000 in
theorem zmc_254 : zMc 254 := zmc_of zck_X11_erase
set_option maxRecDepth 100000 in
theorem zcw_255 : zCw 255 := ztg (c := 8) (j := 26) (w := Cond.code yX11_fault cX11_fault 2 (some .int)) rfl rfl
set_option maxRecDepth 100000 in
theorem zmc_255 : zMc 255 := zmc_of zck_X11_fault
set_option maxRecDepth 100000 in
theorem zcw_256 : zCw 256 := ztg (c := 8) (j := 30) (w := Cond.code yX11_tells cX11_tells 6 (some .long)) rfl rfl
set_option maxRecDepth 100000 in
theorem zmc_256 : zMc 256 := zmc_of zck_X11_tells
set_option maxRecDepth 100000 in
theorem zcw_257 : zCw 257 := ztg (c := 8) (j := 36) (w := Cond.code yX11_ordain cX11_ordain 7 (some .int)) rfl rfl
set_option maxRecDepth 100000 in
theorem zmc_257 : zMc 257 := zmc_of zck_X11_ordain
set_option maxRecDepth 100000 in
theorem zcw_258 : zCw 258 := ztg (c := 8) (j := 40) (w := Cond.code yX11_choose cX11_choose 4 (some .int)) rfl rfl
set_option maxRecDepth 100000 in
theorem zmc_258 : zMc 258 := zmc_of zck_X11_choose
set_option maxRecDepth 100000 in
theorem zcw_259 : zCw 259 := ztg (c := 8) (j := 44) (w := Cond.code yX11_binds cX11_binds 3 (some .int)) rfl rfl
set_option maxRecDepth 100000 in
theorem zmc_259 : zMc 259 := zmc_of zck_X11_binds
set_option maxRecDepth 100000 in
theorem zcw_260 : zCw 260 := ztg (c := 8) (j := 68) (w := Cond.code yX11_mayTake cX11_mayTake 7 (some .int)) rfl rfl
set_option maxRecDepth 100000 in
theorem zmc_260 : zMc 260 := zmc_of zck_X11_mayTake
set_option maxRecDepth 100000 in
theorem zcw_261 : zCw 261 := ztg (c := 8) (j := 64) (w := Cond.code yX11_findMay cX11_findMay 5 (none)) rfl rfl
set_option maxRecDepth 100000 in
theorem zmc_261 : zMc 261 := zmc_of zck_X11_findMay
set_option maxRecDepth 100000 in
theorem zcw_262 : zCw 262 := ztg (c := 8) (j := 76) (w := Cond.code yX11_spread cX11_spread 4 (some .int)) rfl rfl
set_option maxRecDepth 100000 in
theorem zmc_262 : zMc 262 := zmc_of zck_X11_spread
set_option maxRecDepth 100000 in
theorem zcw_263 : zCw 263 := ztg (c := 8) (j := 79) (w := Cond.code yX11_next cX11_next 3 (some .int)) rfl rfl
set_option maxRecDepth 100000 in
theorem zmc_263 : zMc 263 := zmc_of zck_X11_next
set_option maxRecDepth 100000 in
theorem zcw_264 : zCw 264 := ztg (c := 8) (j := 72) (w := Cond.code yX11_along cX11_along 2 (some .int)) rfl rfl
set_option maxRecDepth 100000 in
theorem zmc_264 : zMc 264 := zmc_of zck_X11_along
set_option maxRecDepth 100000 in
theorem zcw_265 : zCw 265 := ztg (c := 8) (j := 60) (w := Cond.code yX11_findLeft cX11_findLeft 9 (none)) rfl rfl
set_option maxRecDepth 100000 in
theorem zmc_265 : zMc 265 := zmc_of zck_X11_findLeft
set_option maxRecDepth 100000 in
theorem zcw_266 : zCw 266 := ztg (c := 8) (j := 52) (w := Cond.code yX11_isWay cX11_isWay 7 (some .boolean)) rfl rfl
set_option maxRecDepth 100000 in
theorem zmc_266 : zMc 266 := zmc_of zck_X11_isWay
set_option maxRecDepth 100000 in
theorem zcw_267 : zCw 267 := ztg (c := 8) (j := 56) (w := Cond.code yX11_findWay cX11_findWay 8 (some .int)) rfl rfl
set_option maxRecDepth 100000 in
theorem zmc_267 : zMc 267 := zmc_of zck_X11_findWay
set_option maxRecDepth 100000 in
theorem zcw_268 : zCw 268 := ztg (c := 8) (j := 48) (w := Cond.code yX11_way cX11_way 7 (some .int)) rfl rfl
set_option maxRecDepth 100000 in
theorem zmc_268 : zMc 268 := zmc_of zck_X11_way
set_option maxRecDepth 100000 in
theorem zcw_269 : zCw 269 := ztg (c := 8) (j := 87) (w := Cond.code yX11_takes cX11_takes 9 (some .int)) rfl rfl
set_option maxRecDepth 100000 in
theorem zmc_269 : zMc 269 := zmc_of zck_X11_takes
set_option maxRecDepth 100000 in
theorem zcw_270 : zCw 270 := ztg (c := 8) (j := 83) (w := Cond.code yX11_wayAt cX11_wayAt 12 (some .int)) rfl rfl
set_option maxRecDepth 100000 in
theorem zmc_270 : zMc 270 := zmc_of zck_X11_wayAt
set_option maxRecDepth 100000 in
theorem zcw_271 : zCw 271 := ztg (c := 8) (j := 91) (w := Cond.code yX11_sits cX11_sits 5 (some .int)) rfl rfl
set_option maxRecDepth 100000 in
theorem zmc_271 : zMc 271 := zmc_of zck_X11_sits
set_option maxRecDepth 100000 in
theorem zcw_272 : zCw 272 := ztg (c := 8) (j := 107) (w := Cond.code yX11_sitting cX11_sitting 4 (some .int)) rfl rfl
set_option maxRecDepth 100000 in
theorem zmc_272 : zMc 272 := zmc_of zck_X11_sitting
set_option maxRecDepth 100000 in
theorem zcw_273 : zCw 273 := ztg (c := 8) (j := 115) (w := Cond.code yX11_areApart cX11_areApart 5 (some .boolean)) rfl rfl
set_option maxRecDepth 100000 in
theorem zmc_273 : zMc 273 := zmc_of zck_X11_areApart
set_option maxRecDepth 100000 in
theorem zcw_274 : zCw 274 := ztg (c := 8) (j := 111) (w := Cond.code yX11_isGood cX11_isGood 5 (some .boolean)) rfl rfl
set_option maxRecDepth 100000 in
theorem zmc_274 : zMc 274 := zmc_of zck_X11_isGood
set_option maxRecDepth 100000 in
theorem zcw_275 : zCw 275 := ztg (c := 8) (j := 119) (w := Cond.code yX11_nextHours cX11_nextHours 5 (some .boolean)) rfl rfl
set_option maxRecDepth 100000 in
theorem zmc_275 : zMc 275 := zmc_of zck_X11_nextHours
set_option maxRecDepth 100000 in
theorem zcw_276 : zCw 276 := ztg (c := 8) (j := 103) (w := Cond.code yX11_findHours cX11_findHours 5 (some .int)) rfl rfl
set_option maxRecDepth 100000 in
theorem zmc_276 : zMc 276 := zmc_of zck_X11_findHours
set_option maxRecDepth 100000 in
theorem zcw_277 : zCw 277 := ztg (c := 8) (j := 99) (w := Cond.code yX11_whyHours cX11_whyHours 4 (some .int)) rfl rfl
set_option maxRecDepth 100000 in
theorem zmc_277 : zMc 277 := zmc_of zck_X11_whyHours
set_option maxRecDepth 100000 in
theorem zcw_278 : zCw 278 := ztg (c := 8) (j := 95) (w := Cond.code yX11_hours cX11_hours 4 (some .int)) rfl rfl
set_option maxRecDepth 100000 in
theorem zmc_278 : zMc 278 := zmc_of zck_X11_hours
set_option maxRecDepth 100000 in
theorem zcw_279 : zCw 279 := ztg (c := 8) (j := 123) (w := Cond.code yX11_hourOf cX11_hourOf 6 (some .int)) rfl rfl
set_option maxRecDepth 100000 in
theorem zmc_279 : zMc 279 := zmc_of zck_X11_hourOf
set_option maxRecDepth 100000 in
theorem zcw_280 : zCw 280 := ztg (c := 8) (j := 135) (w := Cond.code yX11_findHabit cX11_findHabit 5 (none)) rfl rfl
set_option maxRecDepth 100000 in
theorem zmc_280 : zMc 280 := zmc_of zck_X11_findHabit
set_option maxRecDepth 100000 in
theorem zcw_281 : zCw 281 := ztg (c := 8) (j := 139) (w := Cond.code yX11_findTail cX11_findTail 8 (none)) rfl rfl
set_option maxRecDepth 100000 in
theorem zmc_281 : zMc 281 := zmc_of zck_X11_findTail
set_option maxRecDepth 100000 in
theorem zcw_282 : zCw 282 := ztg (c := 8) (j := 144) (w := Cond.code yX11_isRare cX11_isRare 8 (some .boolean)) rfl rfl
set_option maxRecDepth 100000 in
theorem zmc_282 : zMc 282 := zmc_of zck_X11_isRare
set_option maxRecDepth 100000 in
theorem zcw_283 : zCw 283 := ztg (c := 8) (j := 131) (w := Cond.code yX11_isHard cX11_isHard 4 (some .int)) rfl rfl
set_option maxRecDepth 100000 in
theorem zmc_283 : zMc 283 := zmc_of zck_X11_isHard
set_option maxRecDepth 100000 in
theorem zcw_284 : zCw 284 := ztg (c := 8) (j := 127) (w := Cond.code yX11_habit cX11_habit 4 (some .int)) rfl rfl
set_option maxRecDepth 100000 in
theorem zmc_284 : zMc 284 := zmc_of zck_X11_habit
set_option maxRecDepth 100000 in
theorem zcw_285 : zCw 285 := ztg (c := 8) (j := 149) (w := Cond.code yX11_odds cX11_odds 3 (some .int)) rfl rfl
set_option maxRecDepth 100000 in
theorem zmc_285 : zMc 285 := zmc_of zck_X11_odds
set_option maxRecDepth 100000 in
theorem zcw_286 : zCw 286 := ztg (c := 8) (j := 153) (w := Cond.code yX11_line cX11_line 3 (some .int)) rfl rfl
set_option maxRecDepth 100000 in
theorem zmc_286 : zMc 286 := zmc_of zck_X11_line
set_option maxRecDepth 100000 in
theorem zcw_287 : zCw 287 := ztg (c := 8) (j := 157) (w := Cond.code yX11_clear cX11_clear 2 (some .int)) rfl rfl
set_option maxRecDepth 100000 in
theorem zmc_287 : zMc 287 := zmc_of zck_X11_clear
set_option maxRecDepth 100000 in
theorem zcw_288 : zCw 288 := ztg (c := 8) (j := 165) (w := Cond.code yX11_sumOf cX11_sumOf 4 (some .int)) rfl rfl
set_option maxRecDepth 100000 in
theorem zmc_288 : zMc 288 := zmc_of zck_X11_sumOf
set_option maxRecDepth 100000 in
theorem zcw_289 : zCw 289 := ztg (c := 8) (j := 161) (w := Cond.code yX11_doubt cX11_doubt 7 (some .int)) rfl rfl
set_option maxRecDepth 100000 in
theorem zmc_289 : zMc 289 := zmc_of zck_X11_doubt
set_option maxRecDepth 100000 in
theorem zcw_290 : zCw 290 := ztg (c := 8) (j := 169) (w := Cond.code yX11_image cX11_image 3 (some .int)) rfl rfl
set_option maxRecDepth 100000 in
theorem zmc_290 : zMc 290 := zmc_of zck_X11_image
set_option maxRecDepth 100000 in
theorem zcw_291 : zCw 291 := ztg (c := 8) (j := 173) (w := Cond.code yX11_from cX11_from 3 (some .int)) rfl rfl
set_option maxRecDepth 100000 in
theorem zmc_291 : zMc 291 := zmc_of zck_X11_from
set_option maxRecDepth 100000 in
theorem zcw_292 : zCw 292 := ztg (c := 8) (j := 181) (w := Cond.code yX11_countOf cX11_countOf 4 (some .int)) rfl rfl
set_option maxRecDepth 100000 in
theorem zmc_292 : zMc 292 := zmc_of zck_X11_countOf
set_option maxRecDepth 100000 in
theorem zcw_293 : zCw 293 := ztg (c := 8) (j := 177) (w := Cond.code yX11_count cX11_count 2 (some .int)) rfl rfl
set_option maxRecDepth 100000 in
theorem zmc_293 : zMc 293 := zmc_of zck_X11_count
set_option maxRecDepth 100000 in
theorem zcw_294 : zCw 294 := ztg (c := 8) (j := 191) (w := Cond.code yX11_mixed cX11_mixed 8 (some .long)) rfl rfl
set_option maxRecDepth 100000 in
theorem zmc_294 : zMc 294 := zmc_of zck_X11_mixed
set_option maxRecDepth 100000 in
theorem zcw_295 : zCw 295 := ztg (c := 8) (j := 185) (w := Cond.code yX11_digest cX11_digest 4 (some .long)) rfl rfl
set_option maxRecDepth 100000 in
theorem zmc_295 : zMc 295 := zmc_of zck_X11_digest
set_option maxRecDepth 100000 in
theorem zcw_296 : zCw 296 := ztg (c := 2) (j := 197) (w := Cond.code yJ6_bitCount_0f7a4 cJ6_bitCount_0f7a4 1 (some .int)) rfl rfl
set_option maxRecDepth 100000 in
theorem zmc_296 : zMc 296 := zmc_of zck_J6_bitCount_0f7a4
set_option maxRecDepth 100000 in
theorem zcw_297 : zCw 297 := ztg (c := 5) (j := 222) (w := Cond.code yJ6_numberOfTrailingZeros_0f7a4 cJ6_numberOfTrailingZeros_0f7a4 2 (some .int)) rfl rfl
set_option maxRecDepth 100000 in
theorem zmc_297 : zMc 297 := zmc_of zck_J6_numberOfTrailingZeros_0f7a4
set_option maxRecDepth 100000 in
theorem zcw_298 : zCw 298 := ztg (c := 3) (j := 153) (w := Cond.code yJ7_fill_d0a16 cJ7_fill_d0a16 5 (none)) rfl rfl
set_option maxRecDepth 100000 in
theorem zmc_298 : zMc 298 := zmc_of zck_J7_fill_d0a16
set_option maxRecDepth 100000 in
theorem zcw_299 : zCw 299 := ztg (c := 4) (j := 90) (w := Cond.code yJ0_charAt_5068e cJ0_charAt_5068e 2 (some .char)) rfl rfl
set_option maxRecDepth 100000 in
theorem zmc_299 : zMc 299 := zmc_of zck_J0_charAt_5068e
set_option maxRecDepth 100000 in
theorem zcw_300 : zCw 300 := ztg (c := 4) (j := 133) (w := Cond.code yJ0_indexOf_0f7a4 cJ0_indexOf_0f7a4 2 (some .int)) rfl rfl
set_option maxRecDepth 100000 in
theorem zmc_300 : zMc 300 := zmc_of zck_J0_indexOf_0f7a4
set_option maxRecDepth 100000 in
theorem zcw_301 : zCw 301 := ztg (c := 4) (j := 137) (w := Cond.code yJ0_indexOf_7cf53 cJ0_indexOf_7cf53 3 (some .int)) rfl rfl
set_option maxRecDepth 100000 in
theorem zmc_301 : zMc 301 := zmc_of zck_J0_indexOf_7cf53
set_option maxRecDepth 100000 in
theorem zcw_302 : zCw 302 := ztg (c := 4) (j := 80) (w := Cond.code yJ0_length_8abf5 cJ0_length_8abf5 1 (some .int)) rfl rfl
set_option maxRecDepth 100000 in
theorem zmc_302 : zMc 302 := zmc_of zck_J0_length_8abf5
set_option maxRecDepth 100000 in
theorem zcw_303 : zCw 303 := ztg (c := 4) (j := 84) (w := Cond.code yJ0_coder_7d493 cJ0_coder_7d493 1 (some .byte)) rfl rfl
set_option maxRecDepth 100000 in
theorem zmc_303 : zMc 303 := zmc_of zck_J0_coder_7d493
set_option maxRecDepth 100000 in
theorem zcw_304 : zCw 304 := ztg (c := 4) (j := 94) (w := Cond.code yJ0_isLatin1_aae02 cJ0_isLatin1_aae02 1 (some .boolean)) rfl rfl
set_option maxRecDepth 100000 in
theorem zmc_304 : zMc 304 := zmc_of zck_J0_isLatin1_aae02
set_option maxRecDepth 100000 in
theorem zcw_305 : zCw 305 := ztg (c := 4) (j := 100) (w := Cond.code yJ0_checkIndex_df160 cJ0_checkIndex_df160 2 (none)) rfl rfl
set_option maxRecDepth 100000 in
theorem zmc_305 : zMc 305 := zmc_of zck_J0_checkIndex_df160
set_option maxRecDepth 100000 in
theorem zcw_306 : zCw 306 := ztg (c := 4) (j := 97) (w := Cond.code yJ1_charAt_3b067 cJ1_charAt_3b067 2 (some .char)) rfl rfl
set_option maxRecDepth 100000 in
theorem zmc_306 : zMc 306 := zmc_of zck_J1_charAt_3b067
set_option maxRecDepth 100000 in
theorem zcw_307 : zCw 307 := ztg (c := 4) (j := 144) (w := Cond.code yJ1_canEncode_9a6ad cJ1_canEncode_9a6ad 1 (some .boolean)) rfl rfl
set_option maxRecDepth 100000 in
theorem zmc_307 : zMc 307 := zmc_of zck_J1_canEncode_9a6ad
set_option maxRecDepth 100000 in
theorem zcw_308 : zCw 308 := ztg (c := 4) (j := 141) (w := Cond.code yJ1_indexOf_4cfef cJ1_indexOf_4cfef 4 (some .int)) rfl rfl
set_option maxRecDepth 100000 in
theorem zmc_308 : zMc 308 := zmc_of zck_J1_indexOf_4cfef
set_option maxRecDepth 100000 in
theorem zcw_309 : zCw 309 := ztg (c := 4) (j := 149) (w := Cond.code yJ1_indexOfChar_4cfef cJ1_indexOfChar_4cfef 6 (some .int)) rfl rfl
set_option maxRecDepth 100000 in
theorem zmc_309 : zMc 309 := zmc_of zck_J1_indexOfChar_4cfef
set_option maxRecDepth 100000 in
theorem zcw_310 : zCw 310 := ztg (c := 4) (j := 105) (w := Cond.code yJ3_checkIndex_8e157 cJ3_checkIndex_8e157 3 (some .int)) rfl rfl
set_option maxRecDepth 100000 in
theorem zmc_310 : zMc 310 := zmc_of zck_J3_checkIndex_8e157
set_option maxRecDepth 100000 in
theorem zmc_311 : zMc 311 := zmc_of zck_L_law
theorem zmck_0 : ∀ i, 10 * 0 ≤ i → i < 10 * 0 + 10 → zMc i := zall20 (P := zMc) 0 zmc_0 zmc_1 zmc_2 zmc_3 zmc_4 zmc_5 zmc_6 zmc_7 zmc_8 zmc_9
theorem zmck_1 : ∀ i, 10 * 1 ≤ i → i < 10 * 1 + 10 → zMc i := zall20 (P := zMc) 10 zmc_10 zmc_11 zmc_12 zmc_13 zmc_14 zmc_15 zmc_16 zmc_17 zmc_18 zmc_19
theorem zmck_2 : ∀ i, 10 * 2 ≤ i → i < 10 * 2 + 10 → zMc i := zall20 (P := zMc) 20 zmc_20 zmc_21 zmc_22 zmc_23 zmc_24 zmc_25 zmc_26 zmc_27 zmc_28 zmc_29
theorem zmck_3 : ∀ i, 10 * 3 ≤ i → i < 10 * 3 + 10 → zMc i := zall20 (P := zMc) 30 zmc_30 zmc_31 zmc_32 zmc_33 zmc_34 zmc_35 zmc_36 zmc_37 zmc_38 zmc_39
theorem zmck_4 : ∀ i, 10 * 4 ≤ i → i < 10 * 4 + 10 → zMc i := zall20 (P := zMc) 40 zmc_40 zmc_41 zmc_42 zmc_43 zmc_44 zmc_45 zmc_46 zmc_47 zmc_48 zmc_49
theorem zmck_5 : ∀ i, 10 * 5 ≤ i → i < 10 * 5 + 10 → zMc i := zall20 (P := zMc) 50 zmc_50 zmc_51 zmc_52 zmc_53 zmc_54 zmc_55 zmc_56 zmc_57 zmc_58 zmc_59
theorem zmck_6 : ∀ i, 10 * 6 ≤ i → i < 10 * 6 + 10 → zMc i := zall20 (P := zMc) 60 zmc_60 zmc_61 zmc_62 zmc_63 zmc_64 zmc_65 zmc_66 zmc_67 zmc_68 zmc_69
theorem zmck_7 : ∀ i, 10 * 7 ≤ i → i < 10 * 7 + 10 → zMc i := zall20 (P := zMc) 70 zmc_70 zmc_71 zmc_72 zmc_73 zmc_74 zmc_75 zmc_76 zmc_77 zmc_78 zmc_79
theorem zmck_8 : ∀ i, 10 * 8 ≤ i → i < 10 * 8 + 10 → zMc i := zall20 (P := zMc) 80 zmc_80 zmc_81 zmc_82 zmc_83 zmc_84 zmc_85 zmc_86 zmc_87 zmc_88 zmc_89
theorem zmck_9 : ∀ i, 10 * 9 ≤ i → i < 10 * 9 + 10 → zMc i := zall20 (P := zMc) 90 zmc_90 zmc_91 zmc_92 zmc_93 zmc_94 zmc_95 zmc_96 zmc_97 zmc_98 zmc_99
theorem zmck_10 : ∀ i, 10 * 10 ≤ i → i < 10 * 10 + 10 → zMc i := zall20 (P := zMc) 100 zmc_100 zmc_101 zmc_102 zmc_103 zmc_104 zmc_105 zmc_106 zmc_107 zmc_108 zmc_109
theorem zmck_11 : ∀ i, 10 * 11 ≤ i → i < 10 * 11 + 10 → zMc i := zall20 (P := zMc) 110 zmc_110 zmc_111 zmc_112 zmc_113 zmc_114 zmc_115 zmc_116 zmc_117 zmc_118 zmc_119
theorem zmck_12 : ∀ i, 10 * 12 ≤ i → i < 10 * 12 + 10 → zMc i := zall20 (P := zMc) 120 zmc_120 zmc_121 zmc_122 zmc_123 zmc_124 zmc_125 zmc_126 zmc_127 zmc_128 zmc_129
theorem zmck_13 : ∀ i, 10 * 13 ≤ i → i < 10 * 13 + 10 → zMc i := zall20 (P := zMc) 130 zmc_130 zmc_131 zmc_132 zmc_133 zmc_134 zmc_135 zmc_136 zmc_137 zmc_138 zmc_139
theorem zmck_14 : ∀ i, 10 * 14 ≤ i → i < 10 * 14 + 10 → zMc i := zall20 (P := zMc) 140 zmc_140 zmc_141 zmc_142 zmc_143 zmc_144 zmc_145 zmc_146 zmc_147 zmc_148 zmc_149
theorem zmck_15 : ∀ i, 10 * 15 ≤ i → i < 10 * 15 + 10 → zMc i := zall20 (P := zMc) 150 zmc_150 zmc_151 zmc_152 zmc_153 zmc_154 zmc_155 zmc_156 zmc_157 zmc_158 zmc_159
theorem zmck_16 : ∀ i, 10 * 16 ≤ i → i < 10 * 16 + 10 → zMc i := zall20 (P := zMc) 160 zmc_160 zmc_161 zmc_162 zmc_163 zmc_164 zmc_165 zmc_166 zmc_167 zmc_168 zmc_169
theorem zmck_17 : ∀ i, 10 * 17 ≤ i → i < 10 * 17 + 10 → zMc i := zall20 (P := zMc) 170 zmc_170 zmc_171 zmc_172 zmc_173 zmc_174 zmc_175 zmc_176 zmc_177 zmc_178 zmc_179
theorem zmck_18 : ∀ i, 10 * 18 ≤ i → i < 10 * 18 + 10 → zMc i := zall20 (P := zMc) 180 zmc_180 zmc_181 zmc_182 zmc_183 zmc_184 zmc_185 zmc_186 zmc_187 zmc_188 zmc_189
theorem zmck_19 : ∀ i, 10 * 19 ≤ i → i < 10 * 19 + 10 → zMc i := zall20 (P := zMc) 190 zmc_190 zmc_191 zmc_192 zmc_193 zmc_194 zmc_195 zmc_196 zmc_197 zmc_198 zmc_199
theorem zmck_20 : ∀ i, 10 * 20 ≤ i → i < 10 * 20 + 10 → zMc i := zall20 (P := zMc) 200 zmc_200 zmc_201 zmc_202 zmc_203 zmc_204 zmc_205 zmc_206 zmc_207 zmc_208 zmc_209
theorem zmck_21 : ∀ i, 10 * 21 ≤ i → i < 10 * 21 + 10 → zMc i := zall20 (P := zMc) 210 zmc_210 zmc_211 zmc_212 zmc_213 zmc_214 zmc_215 zmc_216 zmc_217 zmc_218 zmc_219
theorem zmck_22 : ∀ i, 10 * 22 ≤ i → i < 10 * 22 + 10 → zMc i := zall20 (P := zMc) 220 zmc_220 zmc_221 zmc_222 zmc_223 zmc_224 zmc_225 zmc_226 zmc_227 zmc_228 zmc_229
theorem zmck_23 : ∀ i, 10 * 23 ≤ i → i < 10 * 23 + 10 → zMc i := zall20 (P := zMc) 230 zmc_230 zmc_231 zmc_232 zmc_233 zmc_234 zmc_235 zmc_236 zmc_237 zmc_238 zmc_239
theorem zmck_24 : ∀ i, 10 * 24 ≤ i → i < 10 * 24 + 10 → zMc i := zall20 (P := zMc) 240 zmc_240 zmc_241 zmc_242 zmc_243 zmc_244 zmc_245 zmc_246 zmc_247 zmc_248 zmc_249
theorem zmck_25 : ∀ i, 10 * 25 ≤ i → i < 10 * 25 + 10 → zMc i := zall20 (P := zMc) 250 zmc_250 zmc_251 zmc_252 zmc_253 zmc_254 zmc_255 zmc_256 zmc_257 zmc_258 zmc_259
theorem zmck_26 : ∀ i, 10 * 26 ≤ i → i < 10 * 26 + 10 → zMc i := zall20 (P := zMc) 260 zmc_260 zmc_261 zmc_262 zmc_263 zmc_264 zmc_265 zmc_266 zmc_267 zmc_268 zmc_269
theorem zmck_27 : ∀ i, 10 * 27 ≤ i → i < 10 * 27 + 10 → zMc i := zall20 (P := zMc) 270 zmc_270 zmc_271 zmc_272 zmc_273 zmc_274 zmc_275 zmc_276 zmc_277 zmc_278 zmc_279
theorem zmck_28 : ∀ i, 10 * 28 ≤ i → i < 10 * 28 + 10 → zMc i := zall20 (P := zMc) 280 zmc_280 zmc_281 zmc_282 zmc_283 zmc_284 zmc_285 zmc_286 zmc_287 zmc_288 zmc_289
theorem zmck_29 : ∀ i, 10 * 29 ≤ i → i < 10 * 29 + 10 → zMc i := zall20 (P := zMc) 290 zmc_290 zmc_291 zmc_292 zmc_293 zmc_294 zmc_295 zmc_296 zmc_297 zmc_298 zmc_299
theorem zmck_30 : ∀ i, 10 * 30 ≤ i → i < 10 * 30 + 10 → zMc i := zall20 (P := zMc) 300 zmc_300 zmc_301 zmc_302 zmc_303 zmc_304 zmc_305 zmc_306 zmc_307 zmc_308 zmc_309
theorem zmc_all : ∀ i, i < 312 → zMc i := by
  intro i hi
  by_cases h : i < 310
  · refine zten (N := 31) (fun k hk => ?_) i h
    match k, hk with
    | 0, _ => exact zmck_0
    | 1, _ => exact zmck_1
    | 2, _ => exact zmck_2
    | 3, _ => exact zmck_3
    | 4, _ => exact zmck_4
    | 5, _ => exact zmck_5
    | 6, _ => exact zmck_6
    | 7, _ => exact zmck_7
    | 8, _ => exact zmck_8
    | 9, _ => exact zmck_9
    | 10, _ => exact zmck_10
    | 11, _ => exact zmck_11
    | 12, _ => exact zmck_12
    | 13, _ => exact zmck_13
    | 14, _ => exact zmck_14
    | 15, _ => exact zmck_15
    | 16, _ => exact zmck_16
    | 17, _ => exact zmck_17
    | 18, _ => exact zmck_18
    | 19, _ => exact zmck_19
    | 20, _ => exact zmck_20
    | 21, _ => exact zmck_21
    | 22, _ => exact zmck_22
    | 23, _ => exact zmck_23
    | 24, _ => exact zmck_24
    | 25, _ => exact zmck_25
    | 26, _ => exact zmck_26
    | 27, _ => exact zmck_27
    | 28, _ => exact zmck_28
    | 29, _ => exact zmck_29
    | 30, _ => exact zmck_30
    | k + 31, hk => exact absurd hk (by omega)
  · obtain rfl | rfl : i = 310 ∨ i = 311 := by omega
    · exact zmc_310
    · exact zmc_311
theorem zcwk_0 : ∀ i, 10 * 0 ≤ i → i < 10 * 0 + 10 → zCw i := zall20 (P := zCw) 0 zcw_0 zcw_1 zcw_2 zcw_3 zcw_4 zcw_5 zcw_6 zcw_7 zcw_8 zcw_9
theorem zcwk_1 : ∀ i, 10 * 1 ≤ i → i < 10 * 1 + 10 → zCw i := zall20 (P := zCw) 10 zcw_10 zcw_11 zcw_12 zcw_13 zcw_14 zcw_15 zcw_16 zcw_17 zcw_18 zcw_19
theorem zcwk_2 : ∀ i, 10 * 2 ≤ i → i < 10 * 2 + 10 → zCw i := zall20 (P := zCw) 20 zcw_20 zcw_21 zcw_22 zcw_23 zcw_24 zcw_25 zcw_26 zcw_27 zcw_28 zcw_29
theorem zcwk_3 : ∀ i, 10 * 3 ≤ i → i < 10 * 3 + 10 → zCw i := zall20 (P := zCw) 30 zcw_30 zcw_31 zcw_32 zcw_33 zcw_34 zcw_35 zcw_36 zcw_37 zcw_38 zcw_39
theorem zcwk_4 : ∀ i, 10 * 4 ≤ i → i < 10 * 4 + 10 → zCw i := zall20 (P := zCw) 40 zcw_40 zcw_41 zcw_42 zcw_43 zcw_44 zcw_45 zcw_46 zcw_47 zcw_48 zcw_49
theorem zcwk_5 : ∀ i, 10 * 5 ≤ i → i < 10 * 5 + 10 → zCw i := zall20 (P := zCw) 50 zcw_50 zcw_51 zcw_52 zcw_53 zcw_54 zcw_55 zcw_56 zcw_57 zcw_58 zcw_59
theorem zcwk_6 : ∀ i, 10 * 6 ≤ i → i < 10 * 6 + 10 → zCw i := zall20 (P := zCw) 60 zcw_60 zcw_61 zcw_62 zcw_63 zcw_64 zcw_65 zcw_66 zcw_67 zcw_68 zcw_69
theorem zcwk_7 : ∀ i, 10 * 7 ≤ i → i < 10 * 7 + 10 → zCw i := zall20 (P := zCw) 70 zcw_70 zcw_71 zcw_72 zcw_73 zcw_74 zcw_75 zcw_76 zcw_77 zcw_78 zcw_79
theorem zcwk_8 : ∀ i, 10 * 8 ≤ i → i < 10 * 8 + 10 → zCw i := zall20 (P := zCw) 80 zcw_80 zcw_81 zcw_82 zcw_83 zcw_84 zcw_85 zcw_86 zcw_87 zcw_88 zcw_89
theorem zcwk_9 : ∀ i, 10 * 9 ≤ i → i < 10 * 9 + 10 → zCw i := zall20 (P := zCw) 90 zcw_90 zcw_91 zcw_92 zcw_93 zcw_94 zcw_95 zcw_96 zcw_97 zcw_98 zcw_99
theorem zcwk_10 : ∀ i, 10 * 10 ≤ i → i < 10 * 10 + 10 → zCw i := zall20 (P := zCw) 100 zcw_100 zcw_101 zcw_102 zcw_103 zcw_104 zcw_105 zcw_106 zcw_107 zcw_108 zcw_109
theorem zcwk_11 : ∀ i, 10 * 11 ≤ i → i < 10 * 11 + 10 → zCw i := zall20 (P := zCw) 110 zcw_110 zcw_111 zcw_112 zcw_113 zcw_114 zcw_115 zcw_116 zcw_117 zcw_118 zcw_119
theorem zcwk_12 : ∀ i, 10 * 12 ≤ i → i < 10 * 12 + 10 → zCw i := zall20 (P := zCw) 120 zcw_120 zcw_121 zcw_122 zcw_123 zcw_124 zcw_125 zcw_126 zcw_127 zcw_128 zcw_129
theorem zcwk_13 : ∀ i, 10 * 13 ≤ i → i < 10 * 13 + 10 → zCw i := zall20 (P := zCw) 130 zcw_130 zcw_131 zcw_132 zcw_133 zcw_134 zcw_135 zcw_136 zcw_137 zcw_138 zcw_139
theorem zcwk_14 : ∀ i, 10 * 14 ≤ i → i < 10 * 14 + 10 → zCw i := zall20 (P := zCw) 140 zcw_140 zcw_141 zcw_142 zcw_143 zcw_144 zcw_145 zcw_146 zcw_147 zcw_148 zcw_149
theorem zcwk_15 : ∀ i, 10 * 15 ≤ i → i < 10 * 15 + 10 → zCw i := zall20 (P := zCw) 150 zcw_150 zcw_151 zcw_152 zcw_153 zcw_154 zcw_155 zcw_156 zcw_157 zcw_158 zcw_159
theorem zcwk_16 : ∀ i, 10 * 16 ≤ i → i < 10 * 16 + 10 → zCw i := zall20 (P := zCw) 160 zcw_160 zcw_161 zcw_162 zcw_163 zcw_164 zcw_165 zcw_166 zcw_167 zcw_168 zcw_169
theorem zcwk_17 : ∀ i, 10 * 17 ≤ i → i < 10 * 17 + 10 → zCw i := zall20 (P := zCw) 170 zcw_170 zcw_171 zcw_172 zcw_173 zcw_174 zcw_175 zcw_176 zcw_177 zcw_178 zcw_179
theorem zcwk_18 : ∀ i, 10 * 18 ≤ i → i < 10 * 18 + 10 → zCw i := zall20 (P := zCw) 180 zcw_180 zcw_181 zcw_182 zcw_183 zcw_184 zcw_185 zcw_186 zcw_187 zcw_188 zcw_189
theorem zcwk_19 : ∀ i, 10 * 19 ≤ i → i < 10 * 19 + 10 → zCw i := zall20 (P := zCw) 190 zcw_190 zcw_191 zcw_192 zcw_193 zcw_194 zcw_195 zcw_196 zcw_197 zcw_198 zcw_199
theorem zcwk_20 : ∀ i, 10 * 20 ≤ i → i < 10 * 20 + 10 → zCw i := zall20 (P := zCw) 200 zcw_200 zcw_201 zcw_202 zcw_203 zcw_204 zcw_205 zcw_206 zcw_207 zcw_208 zcw_209
theorem zcwk_21 : ∀ i, 10 * 21 ≤ i → i < 10 * 21 + 10 → zCw i := zall20 (P := zCw) 210 zcw_210 zcw_211 zcw_212 zcw_213 zcw_214 zcw_215 zcw_216 zcw_217 zcw_218 zcw_219
theorem zcwk_22 : ∀ i, 10 * 22 ≤ i → i < 10 * 22 + 10 → zCw i := zall20 (P := zCw) 220 zcw_220 zcw_221 zcw_222 zcw_223 zcw_224 zcw_225 zcw_226 zcw_227 zcw_228 zcw_229
theorem zcwk_23 : ∀ i, 10 * 23 ≤ i → i < 10 * 23 + 10 → zCw i := zall20 (P := zCw) 230 zcw_230 zcw_231 zcw_232 zcw_233 zcw_234 zcw_235 zcw_236 zcw_237 zcw_238 zcw_239
theorem zcwk_24 : ∀ i, 10 * 24 ≤ i → i < 10 * 24 + 10 → zCw i := zall20 (P := zCw) 240 zcw_240 zcw_241 zcw_242 zcw_243 zcw_244 zcw_245 zcw_246 zcw_247 zcw_248 zcw_249
theorem zcwk_25 : ∀ i, 10 * 25 ≤ i → i < 10 * 25 + 10 → zCw i := zall20 (P := zCw) 250 zcw_250 zcw_251 zcw_252 zcw_253 zcw_254 zcw_255 zcw_256 zcw_257 zcw_258 zcw_259
theorem zcwk_26 : ∀ i, 10 * 26 ≤ i → i < 10 * 26 + 10 → zCw i := zall20 (P := zCw) 260 zcw_260 zcw_261 zcw_262 zcw_263 zcw_264 zcw_265 zcw_266 zcw_267 zcw_268 zcw_269
theorem zcwk_27 : ∀ i, 10 * 27 ≤ i → i < 10 * 27 + 10 → zCw i := zall20 (P := zCw) 270 zcw_270 zcw_271 zcw_272 zcw_273 zcw_274 zcw_275 zcw_276 zcw_277 zcw_278 zcw_279
theorem zcwk_28 : ∀ i, 10 * 28 ≤ i → i < 10 * 28 + 10 → zCw i := zall20 (P := zCw) 280 zcw_280 zcw_281 zcw_282 zcw_283 zcw_284 zcw_285 zcw_286 zcw_287 zcw_288 zcw_289
theorem zcwk_29 : ∀ i, 10 * 29 ≤ i → i < 10 * 29 + 10 → zCw i := zall20 (P := zCw) 290 zcw_290 zcw_291 zcw_292 zcw_293 zcw_294 zcw_295 zcw_296 zcw_297 zcw_298 zcw_299
theorem zcwk_30 : ∀ i, 10 * 30 ≤ i → i < 10 * 30 + 10 → zCw i := zall20 (P := zCw) 300 zcw_300 zcw_301 zcw_302 zcw_303 zcw_304 zcw_305 zcw_306 zcw_307 zcw_308 zcw_309
theorem zcw_all : ∀ i, i < 311 → zCw i := by
  intro i hi
  by_cases h : i < 310
  · refine zten (N := 31) (fun k hk => ?_) i h
    match k, hk with
    | 0, _ => exact zcwk_0
    | 1, _ => exact zcwk_1
    | 2, _ => exact zcwk_2
    | 3, _ => exact zcwk_3
    | 4, _ => exact zcwk_4
    | 5, _ => exact zcwk_5
    | 6, _ => exact zcwk_6
    | 7, _ => exact zcwk_7
    | 8, _ => exact zcwk_8
    | 9, _ => exact zcwk_9
    | 10, _ => exact zcwk_10
    | 11, _ => exact zcwk_11
    | 12, _ => exact zcwk_12
    | 13, _ => exact zcwk_13
    | 14, _ => exact zcwk_14
    | 15, _ => exact zcwk_15
    | 16, _ => exact zcwk_16
    | 17, _ => exact zcwk_17
    | 18, _ => exact zcwk_18
    | 19, _ => exact zcwk_19
    | 20, _ => exact zcwk_20
    | 21, _ => exact zcwk_21
    | 22, _ => exact zcwk_22
    | 23, _ => exact zcwk_23
    | 24, _ => exact zcwk_24
    | 25, _ => exact zcwk_25
    | 26, _ => exact zcwk_26
    | 27, _ => exact zcwk_27
    | 28, _ => exact zcwk_28
    | 29, _ => exact zcwk_29
    | 30, _ => exact zcwk_30
    | k + 31, hk => exact absurd hk (by omega)
  · obtain rfl : i = 310 := by omega
    exact zcw_310
def zowns : List String := ["SenateRoll$Doubts", "SenateRoll$Habits", "SenateRoll$House", "SenateRoll$Judge", "SenateRoll$Known", "SenateRoll$Machine", "SenateRoll$Papers", "SenateRoll$Reader", "SenateRoll$Rows", "SenateRoll$Ways", "SenateRoll", "SenateRollModel", "java/lang/Integer", "java/util/Arrays", "java/lang/String", "java/lang/StringLatin1", "jdk/internal/util/Preconditions", "SenateRollLaw"]
set_option maxRecDepth 100000 in
theorem zown_ok : zYL.all (fun y => decide (zowns.getD y.2.2.2.2 "" = y.1.cls) && Nat.blt y.2.2.2.2 18) = true := by decide +kernel
theorem zpool_of {own : String} {ps : List zQc} {cs : List (List (Nat × Nat))} (h : (Nat.beq ps.length cs.length && (ps.zip cs).all (fun q => zpB own q.1 q.2)) = true) : ∀ q ∈ ps, zcpOk zTG zcl ztf ztsl zstt ztxt own q ∧ zcOk zTG zcl znel zfy zfr zU own q := by
  rw [Bool.and_eq_true] at h
  intro q hq
  obtain ⟨i, hi⟩ := List.getElem?_of_mem hq
  have hl := (List.getElem?_eq_some_iff.mp hi).1
  have hl2 : i < cs.length := by rw [← Nat.eq_of_beq_eq_true h.1]; exact hl
  have hm : (q, cs[i]) ∈ ps.zip cs := List.mem_of_getElem? (i := i) (by rw [List.getElem?_zip_eq_some]; exact ⟨hi, List.getElem?_eq_getElem hl2⟩)
  exact zpB_ok (List.all_eq_true.mp h.2 _ hm)
set_option maxRecDepth 100000 in
theorem zpool_all : ∀ n, n < 18 → ∀ q ∈ zpools.getD n [], zcpOk zTG zcl ztf ztsl zstt ztxt (zowns.getD n "") q ∧ zcOk zTG zcl znel zfy zfr zU (zowns.getD n "") q := by
  intro n hn
  match n, hn with
  | 0, _ => exact zpool_of zpool_0_ok
  | 1, _ => exact zpool_of zpool_1_ok
  | 2, _ => exact zpool_of zpool_2_ok
  | 3, _ => exact zpool_of zpool_3_ok
  | 4, _ => exact zpool_of zpool_4_ok
  | 5, _ => exact zpool_of zpool_5_ok
  | 6, _ => exact zpool_of zpool_6_ok
  | 7, _ => exact zpool_of zpool_7_ok
  | 8, _ => exact zpool_of zpool_8_ok
  | 9, _ => exact zpool_of zpool_9_ok
  | 10, _ => exact zpool_of zpool_10_ok
  | 11, _ => exact zpool_of zpool_11_ok
  | 12, _ => exact zpool_of zpool_12_ok
  | 13, _ => exact zpool_of zpool_13_ok
  | 14, _ => exact zpool_of zpool_14_ok
  | 15, _ => exact zpool_of zpool_15_ok
  | 16, _ => exact zpool_of zpool_16_ok
  | 17, _ => exact zpool_of zpool_17_ok
  | n + 18, hn => exact absurd hn (by omega)
theorem zwl_of {ws : List Cond} {cs : List (Nat × Nat)} (h : (Nat.beq ws.length cs.length && (ws.zip cs).all (fun q => decide ((zch q.2.1)[q.2.2]? = some q.1))) = true) : ∀ w ∈ ws, w ∈ lw_tbl := by
  rw [Bool.and_eq_true] at h
  intro q hq
  obtain ⟨i, hi⟩ := List.getElem?_of_mem hq
  have hl := (List.getElem?_eq_some_iff.mp hi).1
  have hl2 : i < cs.length := by rw [← Nat.eq_of_beq_eq_true h.1]; exact hl
  have hm : (q, cs[i]) ∈ ws.zip cs := List.mem_of_getElem? (i := i) (by rw [List.getElem?_zip_eq_some]; exact ⟨hi, List.getElem?_eq_getElem hl2⟩)
  have r := of_decide_eq_true (List.all_eq_true.mp h.2 _ hm)
  exact zch_sub _ _ (List.mem_of_getElem? r)
set_option maxRecDepth 100000 in
theorem zinl_0 : ∀ w ∈ u_ws RX0 TX0 3, w ∈ lw_tbl := zwl_of (cs := [(2, 94), (2, 96), (2, 98)]) (by decide +kernel)
set_option maxRecDepth 100000 in
theorem zgd_0 : (u_ws RX0 TX0 3).all goodWord = true := by decide +kernel
set_option maxRecDepth 100000 in
theorem zin_0 : ∀ w ∈ u_ws RX0 TX0 3, w ∈ zTG := fun w h => List.mem_filter.mpr ⟨zinl_0 w h, List.all_eq_true.mp zgd_0 w h⟩
set_option maxRecDepth 100000 in
theorem zinl_1 : ∀ w ∈ u_ws RX1 TX1 8, w ∈ lw_tbl := zwl_of (cs := [(2, 68), (2, 70), (2, 72), (2, 74), (2, 76), (2, 78), (2, 80), (2, 82)]) (by decide +kernel)
set_option maxRecDepth 100000 in
theorem zgd_1 : (u_ws RX1 TX1 8).all goodWord = true := by decide +kernel
set_option maxRecDepth 100000 in
theorem zin_1 : ∀ w ∈ u_ws RX1 TX1 8, w ∈ zTG := fun w h => List.mem_filter.mpr ⟨zinl_1 w h, List.all_eq_true.mp zgd_1 w h⟩
set_option maxRecDepth 100000 in
theorem zinl_2 : ∀ w ∈ u_ws RX2 TX2 10, w ∈ lw_tbl := zwl_of (cs := [(1, 90), (1, 92), (1, 94), (1, 96), (1, 98), (1, 100), (1, 102), (1, 104), (1, 106), (1, 108)]) (by decide +kernel)
set_option maxRecDepth 100000 in
theorem zgd_2 : (u_ws RX2 TX2 10).all goodWord = true := by decide +kernel
set_option maxRecDepth 100000 in
theorem zin_2 : ∀ w ∈ u_ws RX2 TX2 10, w ∈ zTG := fun w h => List.mem_filter.mpr ⟨zinl_2 w h, List.all_eq_true.mp zgd_2 w h⟩
set_option maxRecDepth 100000 in
theorem zinl_3 : ∀ w ∈ u_ws RX3 TX3 5, w ∈ lw_tbl := zwl_of (cs := [(1, 228), (1, 230), (1, 232), (1, 234), (1, 236)]) (by decide +kernel)
set_option maxRecDepth 100000 in
theorem zgd_3 : (u_ws RX3 TX3 5).all goodWord = true := by decide +kernel
set_option maxRecDepth 100000 in
theorem zin_3 : ∀ w ∈ u_ws RX3 TX3 5, w ∈ zTG := fun w h => List.mem_filter.mpr ⟨zinl_3 w h, List.all_eq_true.mp zgd_3 w h⟩
set_option maxRecDepth 100000 in
theorem zinl_4 : ∀ w ∈ u_ws RX4 TX4 4, w ∈ lw_tbl := zwl_of (cs := [(1, 123), (1, 125), (1, 127), (1, 129)]) (by decide +kernel)
set_option maxRecDepth 100000 in
theorem zgd_4 : (u_ws RX4 TX4 4).all goodWord = true := by decide +kernel
set_option maxRecDepth 100000 in
theorem zin_4 : ∀ w ∈ u_ws RX4 TX4 4, w ∈ zTG := fun w h => List.mem_filter.mpr ⟨zinl_4 w h, List.all_eq_true.mp zgd_4 w h⟩
set_option maxRecDepth 100000 in
theorem zinl_5 : ∀ w ∈ u_ws RX5 TX5 6, w ∈ lw_tbl := zwl_of (cs := [(1, 189), (1, 191), (1, 193), (1, 195), (1, 197), (1, 199)]) (by decide +kernel)
set_option maxRecDepth 100000 in
theorem zgd_5 : (u_ws RX5 TX5 6).all goodWord = true := by decide +kernel
set_option maxRecDepth 100000 in
theorem zin_5 : ∀ w ∈ u_ws RX5 TX5 6, w ∈ zTG := fun w h => List.mem_filter.mpr ⟨zinl_5 w h, List.all_eq_true.mp zgd_5 w h⟩
set_option maxRecDepth 100000 in
theorem zinl_6 : ∀ w ∈ u_ws RX6 TX6 7, w ∈ lw_tbl := zwl_of (cs := [(2, 39), (2, 41), (2, 43), (2, 45), (2, 47), (2, 49), (2, 51)]) (by decide +kernel)
set_option maxRecDepth 100000 in
theorem zgd_6 : (u_ws RX6 TX6 7).all goodWord = true := by decide +kernel
set_option maxRecDepth 100000 in
theorem zin_6 : ∀ w ∈ u_ws RX6 TX6 7, w ∈ zTG := fun w h => List.mem_filter.mpr ⟨zinl_6 w h, List.all_eq_true.mp zgd_6 w h⟩
set_option maxRecDepth 100000 in
theorem zinl_7 : ∀ w ∈ u_ws RX7 TX7 12, w ∈ lw_tbl := zwl_of (cs := [(1, 152), (1, 154), (1, 156), (1, 158), (1, 160), (1, 162), (1, 164), (1, 166), (1, 168), (1, 170), (1, 172), (1, 174)]) (by decide +kernel)
set_option maxRecDepth 100000 in
theorem zgd_7 : (u_ws RX7 TX7 12).all goodWord = true := by decide +kernel
set_option maxRecDepth 100000 in
theorem zin_7 : ∀ w ∈ u_ws RX7 TX7 12, w ∈ zTG := fun w h => List.mem_filter.mpr ⟨zinl_7 w h, List.all_eq_true.mp zgd_7 w h⟩
set_option maxRecDepth 100000 in
theorem zinl_8 : ∀ w ∈ u_ws RX8 TX8 4, w ∈ lw_tbl := zwl_of (cs := [(1, 49), (1, 51), (1, 53), (1, 55)]) (by decide +kernel)
set_option maxRecDepth 100000 in
theorem zgd_8 : (u_ws RX8 TX8 4).all goodWord = true := by decide +kernel
set_option maxRecDepth 100000 in
theorem zin_8 : ∀ w ∈ u_ws RX8 TX8 4, w ∈ zTG := fun w h => List.mem_filter.mpr ⟨zinl_8 w h, List.all_eq_true.mp zgd_8 w h⟩
set_option maxRecDepth 100000 in
theorem zinl_9 : ∀ w ∈ u_ws RX9 TX9 6, w ∈ lw_tbl := zwl_of (cs := [(2, 13), (2, 15), (2, 17), (2, 19), (2, 21), (2, 23)]) (by decide +kernel)
set_option maxRecDepth 100000 in
theorem zgd_9 : (u_ws RX9 TX9 6).all goodWord = true := by decide +kernel
set_option maxRecDepth 100000 in
theorem zin_9 : ∀ w ∈ u_ws RX9 TX9 6, w ∈ zTG := fun w h => List.mem_filter.mpr ⟨zinl_9 w h, List.all_eq_true.mp zgd_9 w h⟩
set_option maxRecDepth 100000 in
theorem zinl_10 : ∀ w ∈ u_ws RX10 TX10 12, w ∈ lw_tbl := zwl_of (cs := [(2, 113), (2, 115), (2, 117), (2, 119), (2, 121), (2, 123), (2, 125), (2, 127), (2, 129), (2, 131), (2, 133), (2, 135)]) (by decide +kernel)
set_option maxRecDepth 100000 in
theorem zgd_10 : (u_ws RX10 TX10 12).all goodWord = true := by decide +kernel
set_option maxRecDepth 100000 in
theorem zin_10 : ∀ w ∈ u_ws RX10 TX10 12, w ∈ zTG := fun w h => List.mem_filter.mpr ⟨zinl_10 w h, List.all_eq_true.mp zgd_10 w h⟩
set_option maxRecDepth 100000 in
theorem zinl_11 : ∀ w ∈ u_ws RX11 TX11 45, w ∈ lw_tbl := zwl_of (cs := [(6, 101), (6, 103), (6, 105), (6, 107), (6, 109), (6, 111), (6, 113), (6, 115), (6, 117), (6, 119), (6, 121), (6, 123), (6, 125), (6, 127), (6, 129), (6, 131), (6, 133), (6, 135), (6, 137), (6, 139), (6, 141), (6, 143), (6, 145), (6, 147), (6, 149), (6, 151), (6, 153), (6, 155), (6, 157), (6, 159), (6, 161), (6, 163), (6, 165), (6, 167), (6, 169), (6, 171), (6, 173), (6, 175), (6, 177), (6, 179), (6, 181), (6, 183), (6, 185), (6, 187), (6, 189)]) (by decide +kernel)
set_option maxRecDepth 100000 in
theorem zgd_11 : (u_ws RX11 TX11 45).all goodWord = true := by decide +kernel
set_option maxRecDepth 100000 in
theorem zin_11 : ∀ w ∈ u_ws RX11 TX11 45, w ∈ zTG := fun w h => List.mem_filter.mpr ⟨zinl_11 w h, List.all_eq_true.mp zgd_11 w h⟩
theorem zinst : ∀ (k : Nat) (q : vw_C), zcl[k]? = some q → ∃ n : Nat, Cond.instantiable q.1 n ∈ lw_tbl := by
  intro k q h
  match k, h with
  | 0, h => cases h; exact ⟨3, zch_sub 2 _ (List.mem_of_getElem? (i := 86) rfl)⟩
  | 1, h => cases h; exact ⟨8, zch_sub 2 _ (List.mem_of_getElem? (i := 55) rfl)⟩
  | 2, h => cases h; exact ⟨10, zch_sub 1 _ (List.mem_of_getElem? (i := 31) rfl)⟩
  | 3, h => cases h; exact ⟨5, zch_sub 1 _ (List.mem_of_getElem? (i := 204) rfl)⟩
  | 4, h => cases h; exact ⟨4, zch_sub 1 _ (List.mem_of_getElem? (i := 112) rfl)⟩
  | 5, h => cases h; exact ⟨6, zch_sub 1 _ (List.mem_of_getElem? (i := 178) rfl)⟩
  | 6, h => cases h; exact ⟨7, zch_sub 2 _ (List.mem_of_getElem? (i := 27) rfl)⟩
  | 7, h => cases h; exact ⟨12, zch_sub 1 _ (List.mem_of_getElem? (i := 133) rfl)⟩
  | 8, h => cases h; exact ⟨4, zch_sub 1 _ (List.mem_of_getElem? (i := 37) rfl)⟩
  | 9, h => cases h; exact ⟨6, zch_sub 2 _ (List.mem_of_getElem? (i := 0) rfl)⟩
  | 10, h => cases h; exact ⟨12, zch_sub 1 _ (List.mem_of_getElem? (i := 23) rfl)⟩
  | 11, h => cases h; exact ⟨45, zch_sub 6 _ (List.mem_of_getElem? (i := 50) rfl)⟩
  | i + 12, h => cases h
set_option maxRecDepth 100000 in
theorem zno_lawB : (zYL.take 311).all (fun y => decide (y.1.cls ≠ "SenateRollLaw")) = true := by decide +kernel
theorem zno_law {μ : Nat} {y : zYv} (h : zYL[μ]? = some y) (hμ : μ < 311) : y.1.cls ≠ "SenateRollLaw" := by
  have := List.all_eq_true.mp zno_lawB y (List.mem_of_getElem? (i := μ) (by rw [List.getElem?_take_of_lt hμ]; exact h))
  simpa using this
theorem zroom_ok : (zP 311).2.2.1 ≤ room_1.cells ∧ (zP 311).2.2.2 ≤ room_1.slots := ⟨by decide +kernel, by decide +kernel⟩
