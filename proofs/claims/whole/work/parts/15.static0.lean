theorem k0 : kd 0 = 8 := by decide +kernel
theorem k1 : kd 1 = 10 := by decide +kernel
theorem n1 : ln 1 = 900 := by decide +kernel
theorem k2 : kd 2 = 5 := by decide +kernel
theorem k3 : kd 3 = 6 := by decide +kernel
theorem k4 : kd 4 = 11 := by decide +kernel
theorem n4 : ln 4 = 60 := by decide +kernel
theorem k5 : kd 5 = 11 := by decide +kernel
theorem n5 : ln 5 = 60 := by decide +kernel
theorem k6 : kd 6 = 12 := by decide +kernel
theorem n6 : ln 6 = 60 := by decide +kernel
theorem k7 : kd 7 = 6 := by decide +kernel
theorem k8 : kd 8 = 11 := by decide +kernel
theorem n8 : ln 8 = 60 := by decide +kernel
theorem k9 : kd 9 = 11 := by decide +kernel
theorem n9 : ln 9 = 60 := by decide +kernel
theorem k10 : kd 10 = 12 := by decide +kernel
theorem n10 : ln 10 = 60 := by decide +kernel
theorem k11 : kd 11 = 6 := by decide +kernel
theorem k12 : kd 12 = 11 := by decide +kernel
theorem n12 : ln 12 = 60 := by decide +kernel
theorem k13 : kd 13 = 11 := by decide +kernel
theorem n13 : ln 13 = 60 := by decide +kernel
theorem k14 : kd 14 = 12 := by decide +kernel
theorem n14 : ln 14 = 60 := by decide +kernel
theorem k15 : kd 15 = 7 := by decide +kernel
theorem k16 : kd 16 = 14 := by decide +kernel
theorem n16 : ln 16 = 20 := by decide +kernel
theorem k17 : kd 17 = 12 := by decide +kernel
theorem n17 : ln 17 = 20 := by decide +kernel
theorem k18 : kd 18 = 11 := by decide +kernel
theorem n18 : ln 18 = 60 := by decide +kernel
theorem k19 : kd 19 = 11 := by decide +kernel
theorem n19 : ln 19 = 60 := by decide +kernel
theorem k20 : kd 20 = 11 := by decide +kernel
theorem n20 : ln 20 = 60 := by decide +kernel
theorem k21 : kd 21 = 11 := by decide +kernel
theorem n21 : ln 21 = 60 := by decide +kernel
theorem k22 : kd 22 = 11 := by decide +kernel
theorem n22 : ln 22 = 60 := by decide +kernel
theorem k23 : kd 23 = 11 := by decide +kernel
theorem n23 : ln 23 = 60 := by decide +kernel
theorem k24 : kd 24 = 11 := by decide +kernel
theorem n24 : ln 24 = 60 := by decide +kernel
theorem k25 : kd 25 = 11 := by decide +kernel
theorem n25 : ln 25 = 60 := by decide +kernel
theorem k26 : kd 26 = 11 := by decide +kernel
theorem n26 : ln 26 = 60 := by decide +kernel
theorem k27 : kd 27 = 11 := by decide +kernel
theorem n27 : ln 27 = 60 := by decide +kernel
theorem k28 : kd 28 = 11 := by decide +kernel
theorem n28 : ln 28 = 60 := by decide +kernel
theorem k29 : kd 29 = 11 := by decide +kernel
theorem n29 : ln 29 = 60 := by decide +kernel
theorem k30 : kd 30 = 11 := by decide +kernel
theorem n30 : ln 30 = 60 := by decide +kernel
theorem k31 : kd 31 = 11 := by decide +kernel
theorem n31 : ln 31 = 60 := by decide +kernel
theorem k32 : kd 32 = 11 := by decide +kernel
theorem n32 : ln 32 = 60 := by decide +kernel
theorem k33 : kd 33 = 11 := by decide +kernel
theorem n33 : ln 33 = 60 := by decide +kernel
theorem k34 : kd 34 = 11 := by decide +kernel
theorem n34 : ln 34 = 60 := by decide +kernel
theorem k35 : kd 35 = 11 := by decide +kernel
theorem n35 : ln 35 = 60 := by decide +kernel
theorem k36 : kd 36 = 11 := by decide +kernel
theorem n36 : ln 36 = 60 := by decide +kernel
theorem k37 : kd 37 = 11 := by decide +kernel
theorem n37 : ln 37 = 60 := by decide +kernel
theorem k38 : kd 38 = 3 := by decide +kernel
theorem k39 : kd 39 = 14 := by decide +kernel
theorem n39 : ln 39 = 10 := by decide +kernel
theorem k40 : kd 40 = 14 := by decide +kernel
theorem n40 : ln 40 = 10 := by decide +kernel
theorem k41 : kd 41 = 14 := by decide +kernel
theorem n41 : ln 41 = 10 := by decide +kernel
theorem k42 : kd 42 = 13 := by decide +kernel
theorem n42 : ln 42 = 10 := by decide +kernel
theorem k43 : kd 43 = 11 := by decide +kernel
theorem n43 : ln 43 = 300 := by decide +kernel
theorem k44 : kd 44 = 11 := by decide +kernel
theorem n44 : ln 44 = 300 := by decide +kernel
theorem k45 : kd 45 = 11 := by decide +kernel
theorem n45 : ln 45 = 300 := by decide +kernel
theorem k46 : kd 46 = 11 := by decide +kernel
theorem n46 : ln 46 = 300 := by decide +kernel
theorem k47 : kd 47 = 11 := by decide +kernel
theorem n47 : ln 47 = 300 := by decide +kernel
theorem k48 : kd 48 = 11 := by decide +kernel
theorem n48 : ln 48 = 300 := by decide +kernel
theorem k49 : kd 49 = 11 := by decide +kernel
theorem n49 : ln 49 = 300 := by decide +kernel
theorem k50 : kd 50 = 11 := by decide +kernel
theorem n50 : ln 50 = 300 := by decide +kernel
theorem k51 : kd 51 = 11 := by decide +kernel
theorem n51 : ln 51 = 300 := by decide +kernel
theorem k52 : kd 52 = 11 := by decide +kernel
theorem n52 : ln 52 = 300 := by decide +kernel
theorem k53 : kd 53 = 11 := by decide +kernel
theorem n53 : ln 53 = 300 := by decide +kernel
theorem k54 : kd 54 = 11 := by decide +kernel
theorem n54 : ln 54 = 300 := by decide +kernel
theorem k55 : kd 55 = 11 := by decide +kernel
theorem n55 : ln 55 = 300 := by decide +kernel
theorem k56 : kd 56 = 11 := by decide +kernel
theorem n56 : ln 56 = 300 := by decide +kernel
theorem k57 : kd 57 = 11 := by decide +kernel
theorem n57 : ln 57 = 300 := by decide +kernel
theorem k58 : kd 58 = 11 := by decide +kernel
theorem n58 : ln 58 = 300 := by decide +kernel
theorem k59 : kd 59 = 11 := by decide +kernel
theorem n59 : ln 59 = 300 := by decide +kernel
theorem k60 : kd 60 = 11 := by decide +kernel
theorem n60 : ln 60 = 300 := by decide +kernel
theorem k61 : kd 61 = 11 := by decide +kernel
theorem n61 : ln 61 = 300 := by decide +kernel
theorem k62 : kd 62 = 11 := by decide +kernel
theorem n62 : ln 62 = 300 := by decide +kernel
theorem k63 : kd 63 = 11 := by decide +kernel
theorem n63 : ln 63 = 300 := by decide +kernel
theorem k64 : kd 64 = 11 := by decide +kernel
theorem n64 : ln 64 = 300 := by decide +kernel
theorem k65 : kd 65 = 11 := by decide +kernel
theorem n65 : ln 65 = 300 := by decide +kernel
theorem k66 : kd 66 = 11 := by decide +kernel
theorem n66 : ln 66 = 300 := by decide +kernel
theorem k67 : kd 67 = 11 := by decide +kernel
theorem n67 : ln 67 = 300 := by decide +kernel
theorem k68 : kd 68 = 11 := by decide +kernel
theorem n68 : ln 68 = 300 := by decide +kernel
theorem k69 : kd 69 = 11 := by decide +kernel
theorem n69 : ln 69 = 300 := by decide +kernel
theorem k70 : kd 70 = 11 := by decide +kernel
theorem n70 : ln 70 = 300 := by decide +kernel
theorem k71 : kd 71 = 11 := by decide +kernel
theorem n71 : ln 71 = 300 := by decide +kernel
theorem k72 : kd 72 = 11 := by decide +kernel
theorem n72 : ln 72 = 300 := by decide +kernel
theorem k73 : kd 73 = 4 := by decide +kernel
theorem k74 : kd 74 = 11 := by decide +kernel
theorem n74 : ln 74 = 300 := by decide +kernel
theorem k75 : kd 75 = 11 := by decide +kernel
theorem n75 : ln 75 = 300 := by decide +kernel
theorem k76 : kd 76 = 11 := by decide +kernel
theorem n76 : ln 76 = 300 := by decide +kernel
theorem k77 : kd 77 = 11 := by decide +kernel
theorem n77 : ln 77 = 300 := by decide +kernel
theorem k78 : kd 78 = 11 := by decide +kernel
theorem n78 : ln 78 = 60 := by decide +kernel
theorem k79 : kd 79 = 11 := by decide +kernel
theorem n79 : ln 79 = 60 := by decide +kernel
theorem k80 : kd 80 = 11 := by decide +kernel
theorem n80 : ln 80 = 5 := by decide +kernel
theorem k81 : kd 81 = 11 := by decide +kernel
theorem n81 : ln 81 = 5 := by decide +kernel
theorem k82 : kd 82 = 11 := by decide +kernel
theorem n82 : ln 82 = 5 := by decide +kernel
theorem k83 : kd 83 = 1 := by decide +kernel
theorem k84 : kd 84 = 11 := by decide +kernel
theorem n84 : ln 84 = 6 := by decide +kernel
theorem k85 : kd 85 = 11 := by decide +kernel
theorem n85 : ln 85 = 6 := by decide +kernel
theorem k86 : kd 86 = 1 := by decide +kernel
theorem k87 : kd 87 = 11 := by decide +kernel
theorem n87 : ln 87 = 6 := by decide +kernel
theorem k88 : kd 88 = 11 := by decide +kernel
theorem n88 : ln 88 = 6 := by decide +kernel
theorem k89 : kd 89 = 0 := by decide +kernel
theorem k90 : kd 90 = 11 := by decide +kernel
theorem n90 : ln 90 = 10 := by decide +kernel
theorem k91 : kd 91 = 2 := by decide +kernel
theorem k92 : kd 92 = 11 := by decide +kernel
theorem n92 : ln 92 = 10 := by decide +kernel
theorem k93 : kd 93 = 11 := by decide +kernel
theorem n93 : ln 93 = 10 := by decide +kernel
theorem k94 : kd 94 = 14 := by decide +kernel
theorem n94 : ln 94 = 10 := by decide +kernel
theorem k95 : kd 95 = 14 := by decide +kernel
theorem n95 : ln 95 = 10 := by decide +kernel
theorem k96 : kd 96 = 11 := by decide +kernel
theorem n96 : ln 96 = 21 := by decide +kernel
theorem k97 : kd 97 = 11 := by decide +kernel
theorem n97 : ln 97 = 60 := by decide +kernel
theorem k98 : kd 98 = 11 := by decide +kernel
theorem n98 : ln 98 = 60 := by decide +kernel
theorem k99 : kd 99 = 11 := by decide +kernel
theorem n99 : ln 99 = 60 := by decide +kernel
theorem k100 : kd 100 = 11 := by decide +kernel
theorem n100 : ln 100 = 60 := by decide +kernel
theorem k101 : kd 101 = 11 := by decide +kernel
theorem n101 : ln 101 = 60 := by decide +kernel
theorem k102 : kd 102 = 11 := by decide +kernel
theorem n102 : ln 102 = 10 := by decide +kernel
theorem k103 : kd 103 = 11 := by decide +kernel
theorem n103 : ln 103 = 10 := by decide +kernel
theorem k104 : kd 104 = 11 := by decide +kernel
theorem n104 : ln 104 = 10 := by decide +kernel
theorem k105 : kd 105 = 11 := by decide +kernel
theorem n105 : ln 105 = 10 := by decide +kernel
theorem k106 : kd 106 = 11 := by decide +kernel
theorem n106 : ln 106 = 10 := by decide +kernel
theorem k107 : kd 107 = 11 := by decide +kernel
theorem n107 : ln 107 = 10 := by decide +kernel
theorem k108 : kd 108 = 11 := by decide +kernel
theorem n108 : ln 108 = 10 := by decide +kernel
theorem k109 : kd 109 = 11 := by decide +kernel
theorem n109 : ln 109 = 10 := by decide +kernel
theorem k110 : kd 110 = 11 := by decide +kernel
theorem n110 : ln 110 = 10 := by decide +kernel
theorem k111 : kd 111 = 11 := by decide +kernel
theorem n111 : ln 111 = 10 := by decide +kernel
theorem k112 : kd 112 = 11 := by decide +kernel
theorem n112 : ln 112 = 10 := by decide +kernel
theorem k113 : kd 113 = 11 := by decide +kernel
theorem n113 : ln 113 = 10 := by decide +kernel
theorem k114 : kd 114 = 11 := by decide +kernel
theorem n114 : ln 114 = 10 := by decide +kernel
theorem k115 : kd 115 = 11 := by decide +kernel
theorem n115 : ln 115 = 10 := by decide +kernel
theorem k116 : kd 116 = 11 := by decide +kernel
theorem n116 : ln 116 = 10 := by decide +kernel
theorem k117 : kd 117 = 11 := by decide +kernel
theorem n117 : ln 117 = 10 := by decide +kernel
theorem k118 : kd 118 = 11 := by decide +kernel
theorem n118 : ln 118 = 10 := by decide +kernel
theorem k119 : kd 119 = 11 := by decide +kernel
theorem n119 : ln 119 = 10 := by decide +kernel
theorem k120 : kd 120 = 11 := by decide +kernel
theorem n120 : ln 120 = 10 := by decide +kernel
theorem k121 : kd 121 = 11 := by decide +kernel
theorem n121 : ln 121 = 10 := by decide +kernel
theorem k122 : kd 122 = 2 := by decide +kernel
theorem k123 : kd 123 = 11 := by decide +kernel
theorem n123 : ln 123 = 10 := by decide +kernel
theorem k124 : kd 124 = 11 := by decide +kernel
theorem n124 : ln 124 = 10 := by decide +kernel
theorem k125 : kd 125 = 14 := by decide +kernel
theorem n125 : ln 125 = 10 := by decide +kernel
theorem k126 : kd 126 = 14 := by decide +kernel
theorem n126 : ln 126 = 10 := by decide +kernel
theorem k127 : kd 127 = 11 := by decide +kernel
theorem n127 : ln 127 = 21 := by decide +kernel
theorem k128 : kd 128 = 11 := by decide +kernel
theorem n128 : ln 128 = 60 := by decide +kernel
theorem k129 : kd 129 = 11 := by decide +kernel
theorem n129 : ln 129 = 60 := by decide +kernel
theorem k130 : kd 130 = 11 := by decide +kernel
theorem n130 : ln 130 = 60 := by decide +kernel
theorem k131 : kd 131 = 11 := by decide +kernel
theorem n131 : ln 131 = 60 := by decide +kernel
theorem k132 : kd 132 = 11 := by decide +kernel
theorem n132 : ln 132 = 60 := by decide +kernel
theorem k133 : kd 133 = 11 := by decide +kernel
theorem n133 : ln 133 = 10 := by decide +kernel
theorem k134 : kd 134 = 11 := by decide +kernel
theorem n134 : ln 134 = 10 := by decide +kernel
theorem k135 : kd 135 = 11 := by decide +kernel
theorem n135 : ln 135 = 10 := by decide +kernel
theorem k136 : kd 136 = 11 := by decide +kernel
theorem n136 : ln 136 = 10 := by decide +kernel
theorem k137 : kd 137 = 11 := by decide +kernel
theorem n137 : ln 137 = 10 := by decide +kernel
theorem k138 : kd 138 = 11 := by decide +kernel
theorem n138 : ln 138 = 10 := by decide +kernel
theorem k139 : kd 139 = 11 := by decide +kernel
theorem n139 : ln 139 = 10 := by decide +kernel
theorem k140 : kd 140 = 11 := by decide +kernel
theorem n140 : ln 140 = 10 := by decide +kernel
theorem k141 : kd 141 = 11 := by decide +kernel
theorem n141 : ln 141 = 10 := by decide +kernel
theorem k142 : kd 142 = 11 := by decide +kernel
theorem n142 : ln 142 = 10 := by decide +kernel
theorem k143 : kd 143 = 11 := by decide +kernel
theorem n143 : ln 143 = 10 := by decide +kernel
theorem k144 : kd 144 = 11 := by decide +kernel
theorem n144 : ln 144 = 10 := by decide +kernel
theorem k145 : kd 145 = 11 := by decide +kernel
theorem n145 : ln 145 = 10 := by decide +kernel
theorem k146 : kd 146 = 11 := by decide +kernel
theorem n146 : ln 146 = 10 := by decide +kernel
theorem k147 : kd 147 = 11 := by decide +kernel
theorem n147 : ln 147 = 10 := by decide +kernel
theorem k148 : kd 148 = 11 := by decide +kernel
theorem n148 : ln 148 = 10 := by decide +kernel
theorem k149 : kd 149 = 11 := by decide +kernel
theorem n149 : ln 149 = 10 := by decide +kernel
theorem k150 : kd 150 = 11 := by decide +kernel
theorem n150 : ln 150 = 10 := by decide +kernel
theorem k151 : kd 151 = 11 := by decide +kernel
theorem n151 : ln 151 = 10 := by decide +kernel
theorem k152 : kd 152 = 11 := by decide +kernel
theorem n152 : ln 152 = 10 := by decide +kernel
theorem k153 : kd 153 = 9 := by decide +kernel
theorem k154 : kd 154 = 11 := by decide +kernel
theorem n154 : ln 154 = 900 := by decide +kernel
theorem k155 : kd 155 = 11 := by decide +kernel
theorem n155 : ln 155 = 415 := by decide +kernel
theorem k156 : kd 156 = 11 := by decide +kernel
theorem n156 : ln 156 = 415 := by decide +kernel
theorem k157 : kd 157 = 11 := by decide +kernel
theorem n157 : ln 157 = 10 := by decide +kernel
theorem k158 : kd 158 = 11 := by decide +kernel
theorem n158 : ln 158 = 60 := by decide +kernel
theorem k159 : kd 159 = 11 := by decide +kernel
theorem n159 : ln 159 = 1200 := by decide +kernel
theorem k160 : kd 160 = 12 := by decide +kernel
theorem n160 : ln 160 = 20 := by decide +kernel
theorem k161 : kd 161 = 11 := by decide +kernel
theorem n161 : ln 161 = 60 := by decide +kernel
theorem k162 : kd 162 = 11 := by decide +kernel
theorem n162 : ln 162 = 60 := by decide +kernel
theorem k163 : kd 163 = 12 := by decide +kernel
theorem n163 : ln 163 = 60 := by decide +kernel
theorem k164 : kd 164 = 11 := by decide +kernel
theorem n164 : ln 164 = 300 := by decide +kernel
theorem k165 : kd 165 = 11 := by decide +kernel
theorem n165 : ln 165 = 300 := by decide +kernel
theorem k166 : kd 166 = 11 := by decide +kernel
theorem n166 : ln 166 = 300 := by decide +kernel
theorem k167 : kd 167 = 11 := by decide +kernel
theorem n167 : ln 167 = 300 := by decide +kernel
theorem k168 : kd 168 = 13 := by decide +kernel
theorem n168 : ln 168 = 300 := by decide +kernel
theorem k169 : kd 169 = 13 := by decide +kernel
theorem n169 : ln 169 = 300 := by decide +kernel
theorem k170 : kd 170 = 11 := by decide +kernel
theorem n170 : ln 170 = 5 := by decide +kernel
theorem k171 : kd 171 = 11 := by decide +kernel
theorem n171 : ln 171 = 5 := by decide +kernel
theorem k172 : kd 172 = 11 := by decide +kernel
theorem n172 : ln 172 = 10 := by decide +kernel
theorem k173 : kd 173 = 11 := by decide +kernel
theorem n173 : ln 173 = 6 := by decide +kernel
theorem k174 : kd 174 = 11 := by decide +kernel
theorem n174 : ln 174 = 6 := by decide +kernel
theorem k175 : kd 175 = 12 := by decide +kernel
theorem n175 : ln 175 = 1 := by decide +kernel
theorem r0_0 : rfs 0 (0 : Nat) = some 1 := by decide +kernel
theorem r0_1 : rfs 0 (1 : Nat) = some 2 := by decide +kernel
theorem r0_2 : rfs 0 (2 : Nat) = some 3 := by decide +kernel
theorem r0_3 : rfs 0 (3 : Nat) = some 7 := by decide +kernel
theorem r0_4 : rfs 0 (4 : Nat) = some 11 := by decide +kernel
theorem r0_5 : rfs 0 (5 : Nat) = some 15 := by decide +kernel
theorem r0_6 : rfs 0 (6 : Nat) = some 38 := by decide +kernel
theorem r0_7 : rfs 0 (7 : Nat) = some 73 := by decide +kernel
theorem r0_8 : rfs 0 (8 : Nat) = some 83 := by decide +kernel
theorem r0_9 : rfs 0 (9 : Nat) = some 86 := by decide +kernel
theorem r0_10 : rfs 0 (10 : Nat) = some 89 := by decide +kernel
theorem r0_11 : rfs 0 (11 : Nat) = some 90 := by decide +kernel
theorem r3_3 : rfs 3 (3 : Nat) = some 4 := by decide +kernel
theorem r3_4 : rfs 3 (4 : Nat) = some 5 := by decide +kernel
theorem r3_5 : rfs 3 (5 : Nat) = some 6 := by decide +kernel
theorem r7_3 : rfs 7 (3 : Nat) = some 8 := by decide +kernel
theorem r7_4 : rfs 7 (4 : Nat) = some 9 := by decide +kernel
theorem r7_5 : rfs 7 (5 : Nat) = some 10 := by decide +kernel
theorem r11_3 : rfs 11 (3 : Nat) = some 12 := by decide +kernel
theorem r11_4 : rfs 11 (4 : Nat) = some 13 := by decide +kernel
theorem r11_5 : rfs 11 (5 : Nat) = some 14 := by decide +kernel
theorem r15_2 : rfs 15 (2 : Nat) = some 16 := by decide +kernel
theorem r15_3 : rfs 15 (3 : Nat) = some 17 := by decide +kernel
theorem r38_0 : rfs 38 (0 : Nat) = some 39 := by decide +kernel
theorem r38_1 : rfs 38 (1 : Nat) = some 40 := by decide +kernel
theorem r38_2 : rfs 38 (2 : Nat) = some 41 := by decide +kernel
theorem r38_3 : rfs 38 (3 : Nat) = some 42 := by decide +kernel
theorem r73_3 : rfs 73 (3 : Nat) = some 74 := by decide +kernel
theorem r73_4 : rfs 73 (4 : Nat) = some 75 := by decide +kernel
theorem r73_5 : rfs 73 (5 : Nat) = some 76 := by decide +kernel
theorem r73_6 : rfs 73 (6 : Nat) = some 77 := by decide +kernel
theorem r73_8 : rfs 73 (8 : Nat) = some 78 := by decide +kernel
theorem r73_9 : rfs 73 (9 : Nat) = some 79 := by decide +kernel
theorem r73_10 : rfs 73 (10 : Nat) = some 80 := by decide +kernel
theorem r73_11 : rfs 73 (11 : Nat) = some 81 := by decide +kernel
theorem r73_12 : rfs 73 (12 : Nat) = some 82 := by decide +kernel
theorem r83_1 : rfs 83 (1 : Nat) = some 84 := by decide +kernel
theorem r83_2 : rfs 83 (2 : Nat) = some 85 := by decide +kernel
theorem r86_1 : rfs 86 (1 : Nat) = some 87 := by decide +kernel
theorem r86_2 : rfs 86 (2 : Nat) = some 88 := by decide +kernel
theorem r91_4 : rfs 91 (4 : Nat) = some 92 := by decide +kernel
theorem r91_5 : rfs 91 (5 : Nat) = some 93 := by decide +kernel
theorem r91_6 : rfs 91 (6 : Nat) = some 94 := by decide +kernel
theorem r91_7 : rfs 91 (7 : Nat) = some 95 := by decide +kernel
theorem r91_8 : rfs 91 (8 : Nat) = some 96 := by decide +kernel
theorem r91_9 : rfs 91 (9 : Nat) = some 97 := by decide +kernel
theorem r91_10 : rfs 91 (10 : Nat) = some 98 := by decide +kernel
theorem r91_11 : rfs 91 (11 : Nat) = some 99 := by decide +kernel
theorem r91_12 : rfs 91 (12 : Nat) = some 100 := by decide +kernel
theorem r91_13 : rfs 91 (13 : Nat) = some 101 := by decide +kernel
theorem r122_4 : rfs 122 (4 : Nat) = some 123 := by decide +kernel
theorem r122_5 : rfs 122 (5 : Nat) = some 124 := by decide +kernel
theorem r122_6 : rfs 122 (6 : Nat) = some 125 := by decide +kernel
theorem r122_7 : rfs 122 (7 : Nat) = some 126 := by decide +kernel
theorem r122_8 : rfs 122 (8 : Nat) = some 127 := by decide +kernel
theorem r122_9 : rfs 122 (9 : Nat) = some 128 := by decide +kernel
theorem r122_10 : rfs 122 (10 : Nat) = some 129 := by decide +kernel
theorem r122_11 : rfs 122 (11 : Nat) = some 130 := by decide +kernel
theorem r122_12 : rfs 122 (12 : Nat) = some 131 := by decide +kernel
theorem r122_13 : rfs 122 (13 : Nat) = some 132 := by decide +kernel
theorem r153_1 : rfs 153 (1 : Nat) = some 154 := by decide +kernel
theorem r153_3 : rfs 153 (3 : Nat) = some 155 := by decide +kernel
theorem r153_4 : rfs 153 (4 : Nat) = some 156 := by decide +kernel
theorem r153_5 : rfs 153 (5 : Nat) = some 157 := by decide +kernel
theorem r153_16 : rfs 153 (16 : Nat) = some 158 := by decide +kernel
theorem r153_18 : rfs 153 (18 : Nat) = some 159 := by decide +kernel
theorem r153_19 : rfs 153 (19 : Nat) = some 160 := by decide +kernel
theorem r153_21 : rfs 153 (21 : Nat) = some 161 := by decide +kernel
theorem r153_22 : rfs 153 (22 : Nat) = some 162 := by decide +kernel
theorem r153_24 : rfs 153 (24 : Nat) = some 163 := by decide +kernel
theorem r153_25 : rfs 153 (25 : Nat) = some 164 := by decide +kernel
theorem r153_26 : rfs 153 (26 : Nat) = some 165 := by decide +kernel
theorem r153_27 : rfs 153 (27 : Nat) = some 166 := by decide +kernel
theorem r153_29 : rfs 153 (29 : Nat) = some 167 := by decide +kernel
theorem r153_31 : rfs 153 (31 : Nat) = some 168 := by decide +kernel
theorem r153_32 : rfs 153 (32 : Nat) = some 169 := by decide +kernel
theorem r153_33 : rfs 153 (33 : Nat) = some 170 := by decide +kernel
theorem r153_34 : rfs 153 (34 : Nat) = some 171 := by decide +kernel
theorem r153_35 : rfs 153 (35 : Nat) = some 172 := by decide +kernel
theorem r153_36 : rfs 153 (36 : Nat) = some 173 := by decide +kernel
theorem r153_37 : rfs 153 (37 : Nat) = some 174 := by decide +kernel
theorem inT1 {w : Cond} (h : w ∈ tables_1_1) : w ∈ tables_1 := List.mem_append_left _ h
theorem inG1 {w : Cond} (hg : goodWord w = true) (h : w ∈ tables_1_1) : w ∈ Gw := List.mem_filter.mpr ⟨List.mem_append_right _ (inT1 h), hg⟩
theorem inT2 {w : Cond} (h : w ∈ tables_1_2) : w ∈ tables_1 := List.mem_append_right _ (List.mem_append_left _ h)
theorem inG2 {w : Cond} (hg : goodWord w = true) (h : w ∈ tables_1_2) : w ∈ Gw := List.mem_filter.mpr ⟨List.mem_append_right _ (inT2 h), hg⟩
theorem inT3 {w : Cond} (h : w ∈ tables_1_3) : w ∈ tables_1 := List.mem_append_right _ (List.mem_append_right _ (List.mem_append_left _ h))
theorem inG3 {w : Cond} (hg : goodWord w = true) (h : w ∈ tables_1_3) : w ∈ Gw := List.mem_filter.mpr ⟨List.mem_append_right _ (inT3 h), hg⟩
theorem inT4 {w : Cond} (h : w ∈ tables_1_4) : w ∈ tables_1 := List.mem_append_right _ (List.mem_append_right _ (List.mem_append_right _ (List.mem_append_left _ h)))
theorem inG4 {w : Cond} (hg : goodWord w = true) (h : w ∈ tables_1_4) : w ∈ Gw := List.mem_filter.mpr ⟨List.mem_append_right _ (inT4 h), hg⟩
theorem inT5 {w : Cond} (h : w ∈ tables_1_5) : w ∈ tables_1 := List.mem_append_right _ (List.mem_append_right _ (List.mem_append_right _ (List.mem_append_right _ (List.mem_append_left _ h))))
theorem inG5 {w : Cond} (hg : goodWord w = true) (h : w ∈ tables_1_5) : w ∈ Gw := List.mem_filter.mpr ⟨List.mem_append_right _ (inT5 h), hg⟩
theorem inT6 {w : Cond} (h : w ∈ tables_1_6) : w ∈ tables_1 := List.mem_append_right _ (List.mem_append_right _ (List.mem_append_right _ (List.mem_append_right _ (List.mem_append_right _ (List.mem_append_left _ h)))))
theorem inG6 {w : Cond} (hg : goodWord w = true) (h : w ∈ tables_1_6) : w ∈ Gw := List.mem_filter.mpr ⟨List.mem_append_right _ (inT6 h), hg⟩
theorem inT7 {w : Cond} (h : w ∈ tables_1_7) : w ∈ tables_1 := List.mem_append_right _ (List.mem_append_right _ (List.mem_append_right _ (List.mem_append_right _ (List.mem_append_right _ (List.mem_append_right _ (List.mem_append_left _ h))))))
theorem inG7 {w : Cond} (hg : goodWord w = true) (h : w ∈ tables_1_7) : w ∈ Gw := List.mem_filter.mpr ⟨List.mem_append_right _ (inT7 h), hg⟩
theorem inT8 {w : Cond} (h : w ∈ tables_1_8) : w ∈ tables_1 := List.mem_append_right _ (List.mem_append_right _ (List.mem_append_right _ (List.mem_append_right _ (List.mem_append_right _ (List.mem_append_right _ (List.mem_append_right _ (h)))))))
theorem inG8 {w : Cond} (hg : goodWord w = true) (h : w ∈ tables_1_8) : w ∈ Gw := List.mem_filter.mpr ⟨List.mem_append_right _ (inT8 h), hg⟩
theorem inP1 {w : MethodName × Nat} (h : w ∈ lw_privs_1) : w ∈ lw_privs := List.mem_append_left _ h
theorem inS1 {y : MethodName} {n : Nat} (h : (y, n) ∈ lw_privs_1) : Cond.selects y.cls y y ∈ Gw := List.mem_filter.mpr ⟨List.mem_append_left _ (List.mem_map.mpr ⟨(y, n), inP1 h, rfl⟩), rfl⟩
theorem inP2 {w : MethodName × Nat} (h : w ∈ lw_privs_2) : w ∈ lw_privs := List.mem_append_right _ (List.mem_append_left _ h)
theorem inS2 {y : MethodName} {n : Nat} (h : (y, n) ∈ lw_privs_2) : Cond.selects y.cls y y ∈ Gw := List.mem_filter.mpr ⟨List.mem_append_left _ (List.mem_map.mpr ⟨(y, n), inP2 h, rfl⟩), rfl⟩
theorem inP3 {w : MethodName × Nat} (h : w ∈ lw_privs_3) : w ∈ lw_privs := List.mem_append_right _ (List.mem_append_right _ (List.mem_append_left _ h))
theorem inS3 {y : MethodName} {n : Nat} (h : (y, n) ∈ lw_privs_3) : Cond.selects y.cls y y ∈ Gw := List.mem_filter.mpr ⟨List.mem_append_left _ (List.mem_map.mpr ⟨(y, n), inP3 h, rfl⟩), rfl⟩
theorem inP4 {w : MethodName × Nat} (h : w ∈ lw_privs_4) : w ∈ lw_privs := List.mem_append_right _ (List.mem_append_right _ (List.mem_append_right _ (List.mem_append_left _ h)))
theorem inS4 {y : MethodName} {n : Nat} (h : (y, n) ∈ lw_privs_4) : Cond.selects y.cls y y ∈ Gw := List.mem_filter.mpr ⟨List.mem_append_left _ (List.mem_map.mpr ⟨(y, n), inP4 h, rfl⟩), rfl⟩
theorem inP5 {w : MethodName × Nat} (h : w ∈ lw_privs_5) : w ∈ lw_privs := List.mem_append_right _ (List.mem_append_right _ (List.mem_append_right _ (List.mem_append_right _ (List.mem_append_left _ h))))
theorem inS5 {y : MethodName} {n : Nat} (h : (y, n) ∈ lw_privs_5) : Cond.selects y.cls y y ∈ Gw := List.mem_filter.mpr ⟨List.mem_append_left _ (List.mem_map.mpr ⟨(y, n), inP5 h, rfl⟩), rfl⟩
theorem inP6 {w : MethodName × Nat} (h : w ∈ lw_privs_6) : w ∈ lw_privs := List.mem_append_right _ (List.mem_append_right _ (List.mem_append_right _ (List.mem_append_right _ (List.mem_append_right _ (List.mem_append_left _ h)))))
theorem inS6 {y : MethodName} {n : Nat} (h : (y, n) ∈ lw_privs_6) : Cond.selects y.cls y y ∈ Gw := List.mem_filter.mpr ⟨List.mem_append_left _ (List.mem_map.mpr ⟨(y, n), inP6 h, rfl⟩), rfl⟩
theorem inP7 {w : MethodName × Nat} (h : w ∈ lw_privs_7) : w ∈ lw_privs := List.mem_append_right _ (List.mem_append_right _ (List.mem_append_right _ (List.mem_append_right _ (List.mem_append_right _ (List.mem_append_right _ (h))))))
theorem inS7 {y : MethodName} {n : Nat} (h : (y, n) ∈ lw_privs_7) : Cond.selects y.cls y y ∈ Gw := List.mem_filter.mpr ⟨List.mem_append_left _ (List.mem_map.mpr ⟨(y, n), inP7 h, rfl⟩), rfl⟩
theorem cX0_9 : Cond.constant RX0 9 (1000000) ∈ Gw := (inG4 rfl (List.mem_of_getElem? (i := 214) (by decide +kernel)))
