theorem vh_cb0 : ∀ j, 0 ≤ j → j < 20 → vh_ck j = true := by
  intro j h1 h2
  rcases (show j = 0 ∨ j = 1 ∨ j = 2 ∨ j = 3 ∨ j = 4 ∨ j = 5 ∨ j = 6 ∨ j = 7 ∨ j = 8 ∨ j = 9 ∨ j = 10 ∨ j = 11 ∨ j = 12 ∨ j = 13 ∨ j = 14 ∨ j = 15 ∨ j = 16 ∨ j = 17 ∨ j = 18 ∨ j = 19 by omega) with e | e | e | e | e | e | e | e | e | e | e | e | e | e | e | e | e | e | e | e <;> subst e
  · exact vh_k0
  · exact vh_k1
  · exact vh_k2
  · exact vh_k3
  · exact vh_k4
  · exact vh_k5
  · exact vh_k6
  · exact vh_k7
  · exact vh_k8
  · exact vh_k9
  · exact vh_k10
  · exact vh_k11
  · exact vh_k12
  · exact vh_k13
  · exact vh_k14
  · exact vh_k15
  · exact vh_k16
  · exact vh_k17
  · exact vh_k18
  · exact vh_k19
theorem vh_cb1 : ∀ j, 20 ≤ j → j < 40 → vh_ck j = true := by
  intro j h1 h2
  rcases (show j = 20 ∨ j = 21 ∨ j = 22 ∨ j = 23 ∨ j = 24 ∨ j = 25 ∨ j = 26 ∨ j = 27 ∨ j = 28 ∨ j = 29 ∨ j = 30 ∨ j = 31 ∨ j = 32 ∨ j = 33 ∨ j = 34 ∨ j = 35 ∨ j = 36 ∨ j = 37 ∨ j = 38 ∨ j = 39 by omega) with e | e | e | e | e | e | e | e | e | e | e | e | e | e | e | e | e | e | e | e <;> subst e
  · exact vh_k20
  · exact vh_k21
  · exact vh_k22
  · exact vh_k23
  · exact vh_k24
  · exact vh_k25
  · exact vh_k26
  · exact vh_k27
  · exact vh_k28
  · exact vh_k29
  · exact vh_k30
  · exact vh_k31
  · exact vh_k32
  · exact vh_k33
  · exact vh_k34
  · exact vh_k35
  · exact vh_k36
  · exact vh_k37
  · exact vh_k38
  · exact vh_k39
theorem vh_cb2 : ∀ j, 40 ≤ j → j < 60 → vh_ck j = true := by
  intro j h1 h2
  rcases (show j = 40 ∨ j = 41 ∨ j = 42 ∨ j = 43 ∨ j = 44 ∨ j = 45 ∨ j = 46 ∨ j = 47 ∨ j = 48 ∨ j = 49 ∨ j = 50 ∨ j = 51 ∨ j = 52 ∨ j = 53 ∨ j = 54 ∨ j = 55 ∨ j = 56 ∨ j = 57 ∨ j = 58 ∨ j = 59 by omega) with e | e | e | e | e | e | e | e | e | e | e | e | e | e | e | e | e | e | e | e <;> subst e
  · exact vh_k40
  · exact vh_k41
  · exact vh_k42
  · exact vh_k43
  · exact vh_k44
  · exact vh_k45
  · exact vh_k46
  · exact vh_k47
  · exact vh_k48
  · exact vh_k49
  · exact vh_k50
  · exact vh_k51
  · exact vh_k52
  · exact vh_k53
  · exact vh_k54
  · exact vh_k55
  · exact vh_k56
  · exact vh_k57
  · exact vh_k58
  · exact vh_k59
theorem vh_cb3 : ∀ j, 60 ≤ j → j < 80 → vh_ck j = true := by
  intro j h1 h2
  rcases (show j = 60 ∨ j = 61 ∨ j = 62 ∨ j = 63 ∨ j = 64 ∨ j = 65 ∨ j = 66 ∨ j = 67 ∨ j = 68 ∨ j = 69 ∨ j = 70 ∨ j = 71 ∨ j = 72 ∨ j = 73 ∨ j = 74 ∨ j = 75 ∨ j = 76 ∨ j = 77 ∨ j = 78 ∨ j = 79 by omega) with e | e | e | e | e | e | e | e | e | e | e | e | e | e | e | e | e | e | e | e <;> subst e
  · exact vh_k60
  · exact vh_k61
  · exact vh_k62
  · exact vh_k63
  · exact vh_k64
  · exact vh_k65
  · exact vh_k66
  · exact vh_k67
  · exact vh_k68
  · exact vh_k69
  · exact vh_k70
  · exact vh_k71
  · exact vh_k72
  · exact vh_k73
  · exact vh_k74
  · exact vh_k75
  · exact vh_k76
  · exact vh_k77
  · exact vh_k78
  · exact vh_k79
theorem vh_cb4 : ∀ j, 80 ≤ j → j < 100 → vh_ck j = true := by
  intro j h1 h2
  rcases (show j = 80 ∨ j = 81 ∨ j = 82 ∨ j = 83 ∨ j = 84 ∨ j = 85 ∨ j = 86 ∨ j = 87 ∨ j = 88 ∨ j = 89 ∨ j = 90 ∨ j = 91 ∨ j = 92 ∨ j = 93 ∨ j = 94 ∨ j = 95 ∨ j = 96 ∨ j = 97 ∨ j = 98 ∨ j = 99 by omega) with e | e | e | e | e | e | e | e | e | e | e | e | e | e | e | e | e | e | e | e <;> subst e
  · exact vh_k80
  · exact vh_k81
  · exact vh_k82
  · exact vh_k83
  · exact vh_k84
  · exact vh_k85
  · exact vh_k86
  · exact vh_k87
  · exact vh_k88
  · exact vh_k89
  · exact vh_k90
  · exact vh_k91
  · exact vh_k92
  · exact vh_k93
  · exact vh_k94
  · exact vh_k95
  · exact vh_k96
  · exact vh_k97
  · exact vh_k98
  · exact vh_k99
theorem vh_cb5 : ∀ j, 100 ≤ j → j < 120 → vh_ck j = true := by
  intro j h1 h2
  rcases (show j = 100 ∨ j = 101 ∨ j = 102 ∨ j = 103 ∨ j = 104 ∨ j = 105 ∨ j = 106 ∨ j = 107 ∨ j = 108 ∨ j = 109 ∨ j = 110 ∨ j = 111 ∨ j = 112 ∨ j = 113 ∨ j = 114 ∨ j = 115 ∨ j = 116 ∨ j = 117 ∨ j = 118 ∨ j = 119 by omega) with e | e | e | e | e | e | e | e | e | e | e | e | e | e | e | e | e | e | e | e <;> subst e
  · exact vh_k100
  · exact vh_k101
  · exact vh_k102
  · exact vh_k103
  · exact vh_k104
  · exact vh_k105
  · exact vh_k106
  · exact vh_k107
  · exact vh_k108
  · exact vh_k109
  · exact vh_k110
  · exact vh_k111
  · exact vh_k112
  · exact vh_k113
  · exact vh_k114
  · exact vh_k115
  · exact vh_k116
  · exact vh_k117
  · exact vh_k118
  · exact vh_k119
theorem vh_cb6 : ∀ j, 120 ≤ j → j < 140 → vh_ck j = true := by
  intro j h1 h2
  rcases (show j = 120 ∨ j = 121 ∨ j = 122 ∨ j = 123 ∨ j = 124 ∨ j = 125 ∨ j = 126 ∨ j = 127 ∨ j = 128 ∨ j = 129 ∨ j = 130 ∨ j = 131 ∨ j = 132 ∨ j = 133 ∨ j = 134 ∨ j = 135 ∨ j = 136 ∨ j = 137 ∨ j = 138 ∨ j = 139 by omega) with e | e | e | e | e | e | e | e | e | e | e | e | e | e | e | e | e | e | e | e <;> subst e
  · exact vh_k120
  · exact vh_k121
  · exact vh_k122
  · exact vh_k123
  · exact vh_k124
  · exact vh_k125
  · exact vh_k126
  · exact vh_k127
  · exact vh_k128
  · exact vh_k129
  · exact vh_k130
  · exact vh_k131
  · exact vh_k132
  · exact vh_k133
  · exact vh_k134
  · exact vh_k135
  · exact vh_k136
  · exact vh_k137
  · exact vh_k138
  · exact vh_k139
theorem vh_cb7 : ∀ j, 140 ≤ j → j < 160 → vh_ck j = true := by
  intro j h1 h2
  rcases (show j = 140 ∨ j = 141 ∨ j = 142 ∨ j = 143 ∨ j = 144 ∨ j = 145 ∨ j = 146 ∨ j = 147 ∨ j = 148 ∨ j = 149 ∨ j = 150 ∨ j = 151 ∨ j = 152 ∨ j = 153 ∨ j = 154 ∨ j = 155 ∨ j = 156 ∨ j = 157 ∨ j = 158 ∨ j = 159 by omega) with e | e | e | e | e | e | e | e | e | e | e | e | e | e | e | e | e | e | e | e <;> subst e
  · exact vh_k140
  · exact vh_k141
  · exact vh_k142
  · exact vh_k143
  · exact vh_k144
  · exact vh_k145
  · exact vh_k146
  · exact vh_k147
  · exact vh_k148
  · exact vh_k149
  · exact vh_k150
  · exact vh_k151
  · exact vh_k152
  · exact vh_k153
  · exact vh_k154
  · exact vh_k155
  · exact vh_k156
  · exact vh_k157
  · exact vh_k158
  · exact vh_k159
theorem vh_cb8 : ∀ j, 160 ≤ j → j < 180 → vh_ck j = true := by
  intro j h1 h2
  rcases (show j = 160 ∨ j = 161 ∨ j = 162 ∨ j = 163 ∨ j = 164 ∨ j = 165 ∨ j = 166 ∨ j = 167 ∨ j = 168 ∨ j = 169 ∨ j = 170 ∨ j = 171 ∨ j = 172 ∨ j = 173 ∨ j = 174 ∨ j = 175 ∨ j = 176 ∨ j = 177 ∨ j = 178 ∨ j = 179 by omega) with e | e | e | e | e | e | e | e | e | e | e | e | e | e | e | e | e | e | e | e <;> subst e
  · exact vh_k160
  · exact vh_k161
  · exact vh_k162
  · exact vh_k163
  · exact vh_k164
  · exact vh_k165
  · exact vh_k166
  · exact vh_k167
  · exact vh_k168
  · exact vh_k169
  · exact vh_k170
  · exact vh_k171
  · exact vh_k172
  · exact vh_k173
  · exact vh_k174
  · exact vh_k175
  · exact vh_k176
  · exact vh_k177
  · exact vh_k178
  · exact vh_k179
theorem vh_cb9 : ∀ j, 180 ≤ j → j < 200 → vh_ck j = true := by
  intro j h1 h2
  rcases (show j = 180 ∨ j = 181 ∨ j = 182 ∨ j = 183 ∨ j = 184 ∨ j = 185 ∨ j = 186 ∨ j = 187 ∨ j = 188 ∨ j = 189 ∨ j = 190 ∨ j = 191 ∨ j = 192 ∨ j = 193 ∨ j = 194 ∨ j = 195 ∨ j = 196 ∨ j = 197 ∨ j = 198 ∨ j = 199 by omega) with e | e | e | e | e | e | e | e | e | e | e | e | e | e | e | e | e | e | e | e <;> subst e
  · exact vh_k180
  · exact vh_k181
  · exact vh_k182
  · exact vh_k183
  · exact vh_k184
  · exact vh_k185
  · exact vh_k186
  · exact vh_k187
  · exact vh_k188
  · exact vh_k189
  · exact vh_k190
  · exact vh_k191
  · exact vh_k192
  · exact vh_k193
  · exact vh_k194
  · exact vh_k195
  · exact vh_k196
  · exact vh_k197
  · exact vh_k198
  · exact vh_k199
theorem vh_cb10 : ∀ j, 200 ≤ j → j < 219 → vh_ck j = true := by
  intro j h1 h2
  rcases (show j = 200 ∨ j = 201 ∨ j = 202 ∨ j = 203 ∨ j = 204 ∨ j = 205 ∨ j = 206 ∨ j = 207 ∨ j = 208 ∨ j = 209 ∨ j = 210 ∨ j = 211 ∨ j = 212 ∨ j = 213 ∨ j = 214 ∨ j = 215 ∨ j = 216 ∨ j = 217 ∨ j = 218 by omega) with e | e | e | e | e | e | e | e | e | e | e | e | e | e | e | e | e | e | e <;> subst e
  · exact vh_k200
  · exact vh_k201
  · exact vh_k202
  · exact vh_k203
  · exact vh_k204
  · exact vh_k205
  · exact vh_k206
  · exact vh_k207
  · exact vh_k208
  · exact vh_k209
  · exact vh_k210
  · exact vh_k211
  · exact vh_k212
  · exact vh_k213
  · exact vh_k214
  · exact vh_k215
  · exact vh_k216
  · exact vh_k217
  · exact vh_k218
theorem vh_cks : ∀ j, j < 219 → vh_ck j = true := by
  intro j hj
  by_cases h0 : j < 20
  · exact vh_cb0 j (by omega) h0
  by_cases h1 : j < 40
  · exact vh_cb1 j (by omega) h1
  by_cases h2 : j < 60
  · exact vh_cb2 j (by omega) h2
  by_cases h3 : j < 80
  · exact vh_cb3 j (by omega) h3
  by_cases h4 : j < 100
  · exact vh_cb4 j (by omega) h4
  by_cases h5 : j < 120
  · exact vh_cb5 j (by omega) h5
  by_cases h6 : j < 140
  · exact vh_cb6 j (by omega) h6
  by_cases h7 : j < 160
  · exact vh_cb7 j (by omega) h7
  by_cases h8 : j < 180
  · exact vh_cb8 j (by omega) h8
  by_cases h9 : j < 200
  · exact vh_cb9 j (by omega) h9
  by_cases h10 : j < 219
  · exact vh_cb10 j (by omega) h10
  omega
