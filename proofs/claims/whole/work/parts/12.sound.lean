theorem okm_of {c M : Nat} (h : ((List.range 231).drop c |>.take 40).all ok_m = true) (h1 : c ≤ M) (h2 : M < c + 40) (h3 : M < 231) : ok_m M = true := by
  refine List.all_eq_true.mp h M (List.mem_iff_getElem?.mpr ⟨M - c, ?_⟩)
  rw [List.getElem?_take, if_pos (by omega), List.getElem?_drop, show c + (M - c) = M by omega, List.getElem?_range h3]
theorem okm {M : Nat} (h : M < 231) : ok_m M = true := by
  by_cases h1 : M < 40
  · exact okm_of okm_0 (by omega) (by omega) h
  by_cases h2 : M < 80
  · exact okm_of okm_40 (by omega) (by omega) h
  by_cases h3 : M < 120
  · exact okm_of okm_80 (by omega) (by omega) h
  by_cases h4 : M < 160
  · exact okm_of okm_120 (by omega) (by omega) h
  by_cases h5 : M < 200
  · exact okm_of okm_160 (by omega) (by omega) h
  · exact okm_of okm_200 (by omega) (by omega) h
set_option maxRecDepth 100000 in
theorem kc {M : Nat} (h : M < 231) : lw_tbl[a_wc M]? = some (.code (a_y M) (a_cc M) (a_mL M) (a_rt M)) := by
  have h0 : 0 ≤ M := Nat.zero_le M
  · rcases Nat.lt_or_ge M 115 with hm115 | hm115
    · rcases Nat.lt_or_ge M 57 with hm57 | hm57
      · rcases Nat.lt_or_ge M 28 with hm28 | hm28
        · rcases Nat.lt_or_ge M 14 with hm14 | hm14
          · rcases Nat.lt_or_ge M 7 with hm7 | hm7
            · rcases Nat.lt_or_ge M 3 with hm3 | hm3
              · rcases Nat.lt_or_ge M 1 with hm1 | hm1
                · obtain rfl : M = 0 := by omega
                  exact kc0
                · rcases Nat.lt_or_ge M 2 with hm2 | hm2
                  · obtain rfl : M = 1 := by omega
                    exact kc1
                  · obtain rfl : M = 2 := by omega
                    exact kc2
              · rcases Nat.lt_or_ge M 5 with hm5 | hm5
                · rcases Nat.lt_or_ge M 4 with hm4 | hm4
                  · obtain rfl : M = 3 := by omega
                    exact kc3
                  · obtain rfl : M = 4 := by omega
                    exact kc4
                · rcases Nat.lt_or_ge M 6 with hm6 | hm6
                  · obtain rfl : M = 5 := by omega
                    exact kc5
                  · obtain rfl : M = 6 := by omega
                    exact kc6
            · rcases Nat.lt_or_ge M 10 with hm10 | hm10
              · rcases Nat.lt_or_ge M 8 with hm8 | hm8
                · obtain rfl : M = 7 := by omega
                  exact kc7
                · rcases Nat.lt_or_ge M 9 with hm9 | hm9
                  · obtain rfl : M = 8 := by omega
                    exact kc8
                  · obtain rfl : M = 9 := by omega
                    exact kc9
              · rcases Nat.lt_or_ge M 12 with hm12 | hm12
                · rcases Nat.lt_or_ge M 11 with hm11 | hm11
                  · obtain rfl : M = 10 := by omega
                    exact kc10
                  · obtain rfl : M = 11 := by omega
                    exact kc11
                · rcases Nat.lt_or_ge M 13 with hm13 | hm13
                  · obtain rfl : M = 12 := by omega
                    exact kc12
                  · obtain rfl : M = 13 := by omega
                    exact kc13
          · rcases Nat.lt_or_ge M 21 with hm21 | hm21
            · rcases Nat.lt_or_ge M 17 with hm17 | hm17
              · rcases Nat.lt_or_ge M 15 with hm15 | hm15
                · obtain rfl : M = 14 := by omega
                  exact kc14
                · rcases Nat.lt_or_ge M 16 with hm16 | hm16
                  · obtain rfl : M = 15 := by omega
                    exact kc15
                  · obtain rfl : M = 16 := by omega
                    exact kc16
              · rcases Nat.lt_or_ge M 19 with hm19 | hm19
                · rcases Nat.lt_or_ge M 18 with hm18 | hm18
                  · obtain rfl : M = 17 := by omega
                    exact kc17
                  · obtain rfl : M = 18 := by omega
                    exact kc18
                · rcases Nat.lt_or_ge M 20 with hm20 | hm20
                  · obtain rfl : M = 19 := by omega
                    exact kc19
                  · obtain rfl : M = 20 := by omega
                    exact kc20
            · rcases Nat.lt_or_ge M 24 with hm24 | hm24
              · rcases Nat.lt_or_ge M 22 with hm22 | hm22
                · obtain rfl : M = 21 := by omega
                  exact kc21
                · rcases Nat.lt_or_ge M 23 with hm23 | hm23
                  · obtain rfl : M = 22 := by omega
                    exact kc22
                  · obtain rfl : M = 23 := by omega
                    exact kc23
              · rcases Nat.lt_or_ge M 26 with hm26 | hm26
                · rcases Nat.lt_or_ge M 25 with hm25 | hm25
                  · obtain rfl : M = 24 := by omega
                    exact kc24
                  · obtain rfl : M = 25 := by omega
                    exact kc25
                · rcases Nat.lt_or_ge M 27 with hm27 | hm27
                  · obtain rfl : M = 26 := by omega
                    exact kc26
                  · obtain rfl : M = 27 := by omega
                    exact kc27
        · rcases Nat.lt_or_ge M 42 with hm42 | hm42
          · rcases Nat.lt_or_ge M 35 with hm35 | hm35
            · rcases Nat.lt_or_ge M 31 with hm31 | hm31
              · rcases Nat.lt_or_ge M 29 with hm29 | hm29
                · obtain rfl : M = 28 := by omega
                  exact kc28
                · rcases Nat.lt_or_ge M 30 with hm30 | hm30
                  · obtain rfl : M = 29 := by omega
                    exact kc29
                  · obtain rfl : M = 30 := by omega
                    exact kc30
              · rcases Nat.lt_or_ge M 33 with hm33 | hm33
                · rcases Nat.lt_or_ge M 32 with hm32 | hm32
                  · obtain rfl : M = 31 := by omega
                    exact kc31
                  · obtain rfl : M = 32 := by omega
                    exact kc32
                · rcases Nat.lt_or_ge M 34 with hm34 | hm34
                  · obtain rfl : M = 33 := by omega
                    exact kc33
                  · obtain rfl : M = 34 := by omega
                    exact kc34
            · rcases Nat.lt_or_ge M 38 with hm38 | hm38
              · rcases Nat.lt_or_ge M 36 with hm36 | hm36
                · obtain rfl : M = 35 := by omega
                  exact kc35
                · rcases Nat.lt_or_ge M 37 with hm37 | hm37
                  · obtain rfl : M = 36 := by omega
                    exact kc36
                  · obtain rfl : M = 37 := by omega
                    exact kc37
              · rcases Nat.lt_or_ge M 40 with hm40 | hm40
                · rcases Nat.lt_or_ge M 39 with hm39 | hm39
                  · obtain rfl : M = 38 := by omega
                    exact kc38
                  · obtain rfl : M = 39 := by omega
                    exact kc39
                · rcases Nat.lt_or_ge M 41 with hm41 | hm41
                  · obtain rfl : M = 40 := by omega
                    exact kc40
                  · obtain rfl : M = 41 := by omega
                    exact kc41
          · rcases Nat.lt_or_ge M 49 with hm49 | hm49
            · rcases Nat.lt_or_ge M 45 with hm45 | hm45
              · rcases Nat.lt_or_ge M 43 with hm43 | hm43
                · obtain rfl : M = 42 := by omega
                  exact kc42
                · rcases Nat.lt_or_ge M 44 with hm44 | hm44
                  · obtain rfl : M = 43 := by omega
                    exact kc43
                  · obtain rfl : M = 44 := by omega
                    exact kc44
              · rcases Nat.lt_or_ge M 47 with hm47 | hm47
                · rcases Nat.lt_or_ge M 46 with hm46 | hm46
                  · obtain rfl : M = 45 := by omega
                    exact kc45
                  · obtain rfl : M = 46 := by omega
                    exact kc46
                · rcases Nat.lt_or_ge M 48 with hm48 | hm48
                  · obtain rfl : M = 47 := by omega
                    exact kc47
                  · obtain rfl : M = 48 := by omega
                    exact kc48
            · rcases Nat.lt_or_ge M 53 with hm53 | hm53
              · rcases Nat.lt_or_ge M 51 with hm51 | hm51
                · rcases Nat.lt_or_ge M 50 with hm50 | hm50
                  · obtain rfl : M = 49 := by omega
                    exact kc49
                  · obtain rfl : M = 50 := by omega
                    exact kc50
                · rcases Nat.lt_or_ge M 52 with hm52 | hm52
                  · obtain rfl : M = 51 := by omega
                    exact kc51
                  · obtain rfl : M = 52 := by omega
                    exact kc52
              · rcases Nat.lt_or_ge M 55 with hm55 | hm55
                · rcases Nat.lt_or_ge M 54 with hm54 | hm54
                  · obtain rfl : M = 53 := by omega
                    exact kc53
                  · obtain rfl : M = 54 := by omega
                    exact kc54
                · rcases Nat.lt_or_ge M 56 with hm56 | hm56
                  · obtain rfl : M = 55 := by omega
                    exact kc55
                  · obtain rfl : M = 56 := by omega
                    exact kc56
      · rcases Nat.lt_or_ge M 86 with hm86 | hm86
        · rcases Nat.lt_or_ge M 71 with hm71 | hm71
          · rcases Nat.lt_or_ge M 64 with hm64 | hm64
            · rcases Nat.lt_or_ge M 60 with hm60 | hm60
              · rcases Nat.lt_or_ge M 58 with hm58 | hm58
                · obtain rfl : M = 57 := by omega
                  exact kc57
                · rcases Nat.lt_or_ge M 59 with hm59 | hm59
                  · obtain rfl : M = 58 := by omega
                    exact kc58
                  · obtain rfl : M = 59 := by omega
                    exact kc59
              · rcases Nat.lt_or_ge M 62 with hm62 | hm62
                · rcases Nat.lt_or_ge M 61 with hm61 | hm61
                  · obtain rfl : M = 60 := by omega
                    exact kc60
                  · obtain rfl : M = 61 := by omega
                    exact kc61
                · rcases Nat.lt_or_ge M 63 with hm63 | hm63
                  · obtain rfl : M = 62 := by omega
                    exact kc62
                  · obtain rfl : M = 63 := by omega
                    exact kc63
            · rcases Nat.lt_or_ge M 67 with hm67 | hm67
              · rcases Nat.lt_or_ge M 65 with hm65 | hm65
                · obtain rfl : M = 64 := by omega
                  exact kc64
                · rcases Nat.lt_or_ge M 66 with hm66 | hm66
                  · obtain rfl : M = 65 := by omega
                    exact kc65
                  · obtain rfl : M = 66 := by omega
                    exact kc66
              · rcases Nat.lt_or_ge M 69 with hm69 | hm69
                · rcases Nat.lt_or_ge M 68 with hm68 | hm68
                  · obtain rfl : M = 67 := by omega
                    exact kc67
                  · obtain rfl : M = 68 := by omega
                    exact kc68
                · rcases Nat.lt_or_ge M 70 with hm70 | hm70
                  · obtain rfl : M = 69 := by omega
                    exact kc69
                  · obtain rfl : M = 70 := by omega
                    exact kc70
          · rcases Nat.lt_or_ge M 78 with hm78 | hm78
            · rcases Nat.lt_or_ge M 74 with hm74 | hm74
              · rcases Nat.lt_or_ge M 72 with hm72 | hm72
                · obtain rfl : M = 71 := by omega
                  exact kc71
                · rcases Nat.lt_or_ge M 73 with hm73 | hm73
                  · obtain rfl : M = 72 := by omega
                    exact kc72
                  · obtain rfl : M = 73 := by omega
                    exact kc73
              · rcases Nat.lt_or_ge M 76 with hm76 | hm76
                · rcases Nat.lt_or_ge M 75 with hm75 | hm75
                  · obtain rfl : M = 74 := by omega
                    exact kc74
                  · obtain rfl : M = 75 := by omega
                    exact kc75
                · rcases Nat.lt_or_ge M 77 with hm77 | hm77
                  · obtain rfl : M = 76 := by omega
                    exact kc76
                  · obtain rfl : M = 77 := by omega
                    exact kc77
            · rcases Nat.lt_or_ge M 82 with hm82 | hm82
              · rcases Nat.lt_or_ge M 80 with hm80 | hm80
                · rcases Nat.lt_or_ge M 79 with hm79 | hm79
                  · obtain rfl : M = 78 := by omega
                    exact kc78
                  · obtain rfl : M = 79 := by omega
                    exact kc79
                · rcases Nat.lt_or_ge M 81 with hm81 | hm81
                  · obtain rfl : M = 80 := by omega
                    exact kc80
                  · obtain rfl : M = 81 := by omega
                    exact kc81
              · rcases Nat.lt_or_ge M 84 with hm84 | hm84
                · rcases Nat.lt_or_ge M 83 with hm83 | hm83
                  · obtain rfl : M = 82 := by omega
                    exact kc82
                  · obtain rfl : M = 83 := by omega
                    exact kc83
                · rcases Nat.lt_or_ge M 85 with hm85 | hm85
                  · obtain rfl : M = 84 := by omega
                    exact kc84
                  · obtain rfl : M = 85 := by omega
                    exact kc85
        · rcases Nat.lt_or_ge M 100 with hm100 | hm100
          · rcases Nat.lt_or_ge M 93 with hm93 | hm93
            · rcases Nat.lt_or_ge M 89 with hm89 | hm89
              · rcases Nat.lt_or_ge M 87 with hm87 | hm87
                · obtain rfl : M = 86 := by omega
                  exact kc86
                · rcases Nat.lt_or_ge M 88 with hm88 | hm88
                  · obtain rfl : M = 87 := by omega
                    exact kc87
                  · obtain rfl : M = 88 := by omega
                    exact kc88
              · rcases Nat.lt_or_ge M 91 with hm91 | hm91
                · rcases Nat.lt_or_ge M 90 with hm90 | hm90
                  · obtain rfl : M = 89 := by omega
                    exact kc89
                  · obtain rfl : M = 90 := by omega
                    exact kc90
                · rcases Nat.lt_or_ge M 92 with hm92 | hm92
                  · obtain rfl : M = 91 := by omega
                    exact kc91
                  · obtain rfl : M = 92 := by omega
                    exact kc92
            · rcases Nat.lt_or_ge M 96 with hm96 | hm96
              · rcases Nat.lt_or_ge M 94 with hm94 | hm94
                · obtain rfl : M = 93 := by omega
                  exact kc93
                · rcases Nat.lt_or_ge M 95 with hm95 | hm95
                  · obtain rfl : M = 94 := by omega
                    exact kc94
                  · obtain rfl : M = 95 := by omega
                    exact kc95
              · rcases Nat.lt_or_ge M 98 with hm98 | hm98
                · rcases Nat.lt_or_ge M 97 with hm97 | hm97
                  · obtain rfl : M = 96 := by omega
                    exact kc96
                  · obtain rfl : M = 97 := by omega
                    exact kc97
                · rcases Nat.lt_or_ge M 99 with hm99 | hm99
                  · obtain rfl : M = 98 := by omega
                    exact kc98
                  · obtain rfl : M = 99 := by omega
                    exact kc99
          · rcases Nat.lt_or_ge M 107 with hm107 | hm107
            · rcases Nat.lt_or_ge M 103 with hm103 | hm103
              · rcases Nat.lt_or_ge M 101 with hm101 | hm101
                · obtain rfl : M = 100 := by omega
                  exact kc100
                · rcases Nat.lt_or_ge M 102 with hm102 | hm102
                  · obtain rfl : M = 101 := by omega
                    exact kc101
                  · obtain rfl : M = 102 := by omega
                    exact kc102
              · rcases Nat.lt_or_ge M 105 with hm105 | hm105
                · rcases Nat.lt_or_ge M 104 with hm104 | hm104
                  · obtain rfl : M = 103 := by omega
                    exact kc103
                  · obtain rfl : M = 104 := by omega
                    exact kc104
                · rcases Nat.lt_or_ge M 106 with hm106 | hm106
                  · obtain rfl : M = 105 := by omega
                    exact kc105
                  · obtain rfl : M = 106 := by omega
                    exact kc106
            · rcases Nat.lt_or_ge M 111 with hm111 | hm111
              · rcases Nat.lt_or_ge M 109 with hm109 | hm109
                · rcases Nat.lt_or_ge M 108 with hm108 | hm108
                  · obtain rfl : M = 107 := by omega
                    exact kc107
                  · obtain rfl : M = 108 := by omega
                    exact kc108
                · rcases Nat.lt_or_ge M 110 with hm110 | hm110
                  · obtain rfl : M = 109 := by omega
                    exact kc109
                  · obtain rfl : M = 110 := by omega
                    exact kc110
              · rcases Nat.lt_or_ge M 113 with hm113 | hm113
                · rcases Nat.lt_or_ge M 112 with hm112 | hm112
                  · obtain rfl : M = 111 := by omega
                    exact kc111
                  · obtain rfl : M = 112 := by omega
                    exact kc112
                · rcases Nat.lt_or_ge M 114 with hm114 | hm114
                  · obtain rfl : M = 113 := by omega
                    exact kc113
                  · obtain rfl : M = 114 := by omega
                    exact kc114
    · rcases Nat.lt_or_ge M 173 with hm173 | hm173
      · rcases Nat.lt_or_ge M 144 with hm144 | hm144
        · rcases Nat.lt_or_ge M 129 with hm129 | hm129
          · rcases Nat.lt_or_ge M 122 with hm122 | hm122
            · rcases Nat.lt_or_ge M 118 with hm118 | hm118
              · rcases Nat.lt_or_ge M 116 with hm116 | hm116
                · obtain rfl : M = 115 := by omega
                  exact kc115
                · rcases Nat.lt_or_ge M 117 with hm117 | hm117
                  · obtain rfl : M = 116 := by omega
                    exact kc116
                  · obtain rfl : M = 117 := by omega
                    exact kc117
              · rcases Nat.lt_or_ge M 120 with hm120 | hm120
                · rcases Nat.lt_or_ge M 119 with hm119 | hm119
                  · obtain rfl : M = 118 := by omega
                    exact kc118
                  · obtain rfl : M = 119 := by omega
                    exact kc119
                · rcases Nat.lt_or_ge M 121 with hm121 | hm121
                  · obtain rfl : M = 120 := by omega
                    exact kc120
                  · obtain rfl : M = 121 := by omega
                    exact kc121
            · rcases Nat.lt_or_ge M 125 with hm125 | hm125
              · rcases Nat.lt_or_ge M 123 with hm123 | hm123
                · obtain rfl : M = 122 := by omega
                  exact kc122
                · rcases Nat.lt_or_ge M 124 with hm124 | hm124
                  · obtain rfl : M = 123 := by omega
                    exact kc123
                  · obtain rfl : M = 124 := by omega
                    exact kc124
              · rcases Nat.lt_or_ge M 127 with hm127 | hm127
                · rcases Nat.lt_or_ge M 126 with hm126 | hm126
                  · obtain rfl : M = 125 := by omega
                    exact kc125
                  · obtain rfl : M = 126 := by omega
                    exact kc126
                · rcases Nat.lt_or_ge M 128 with hm128 | hm128
                  · obtain rfl : M = 127 := by omega
                    exact kc127
                  · obtain rfl : M = 128 := by omega
                    exact kc128
          · rcases Nat.lt_or_ge M 136 with hm136 | hm136
            · rcases Nat.lt_or_ge M 132 with hm132 | hm132
              · rcases Nat.lt_or_ge M 130 with hm130 | hm130
                · obtain rfl : M = 129 := by omega
                  exact kc129
                · rcases Nat.lt_or_ge M 131 with hm131 | hm131
                  · obtain rfl : M = 130 := by omega
                    exact kc130
                  · obtain rfl : M = 131 := by omega
                    exact kc131
              · rcases Nat.lt_or_ge M 134 with hm134 | hm134
                · rcases Nat.lt_or_ge M 133 with hm133 | hm133
                  · obtain rfl : M = 132 := by omega
                    exact kc132
                  · obtain rfl : M = 133 := by omega
                    exact kc133
                · rcases Nat.lt_or_ge M 135 with hm135 | hm135
                  · obtain rfl : M = 134 := by omega
                    exact kc134
                  · obtain rfl : M = 135 := by omega
                    exact kc135
            · rcases Nat.lt_or_ge M 140 with hm140 | hm140
              · rcases Nat.lt_or_ge M 138 with hm138 | hm138
                · rcases Nat.lt_or_ge M 137 with hm137 | hm137
                  · obtain rfl : M = 136 := by omega
                    exact kc136
                  · obtain rfl : M = 137 := by omega
                    exact kc137
                · rcases Nat.lt_or_ge M 139 with hm139 | hm139
                  · obtain rfl : M = 138 := by omega
                    exact kc138
                  · obtain rfl : M = 139 := by omega
                    exact kc139
              · rcases Nat.lt_or_ge M 142 with hm142 | hm142
                · rcases Nat.lt_or_ge M 141 with hm141 | hm141
                  · obtain rfl : M = 140 := by omega
                    exact kc140
                  · obtain rfl : M = 141 := by omega
                    exact kc141
                · rcases Nat.lt_or_ge M 143 with hm143 | hm143
                  · obtain rfl : M = 142 := by omega
                    exact kc142
                  · obtain rfl : M = 143 := by omega
                    exact kc143
        · rcases Nat.lt_or_ge M 158 with hm158 | hm158
          · rcases Nat.lt_or_ge M 151 with hm151 | hm151
            · rcases Nat.lt_or_ge M 147 with hm147 | hm147
              · rcases Nat.lt_or_ge M 145 with hm145 | hm145
                · obtain rfl : M = 144 := by omega
                  exact kc144
                · rcases Nat.lt_or_ge M 146 with hm146 | hm146
                  · obtain rfl : M = 145 := by omega
                    exact kc145
                  · obtain rfl : M = 146 := by omega
                    exact kc146
              · rcases Nat.lt_or_ge M 149 with hm149 | hm149
                · rcases Nat.lt_or_ge M 148 with hm148 | hm148
                  · obtain rfl : M = 147 := by omega
                    exact kc147
                  · obtain rfl : M = 148 := by omega
                    exact kc148
                · rcases Nat.lt_or_ge M 150 with hm150 | hm150
                  · obtain rfl : M = 149 := by omega
                    exact kc149
                  · obtain rfl : M = 150 := by omega
                    exact kc150
            · rcases Nat.lt_or_ge M 154 with hm154 | hm154
              · rcases Nat.lt_or_ge M 152 with hm152 | hm152
                · obtain rfl : M = 151 := by omega
                  exact kc151
                · rcases Nat.lt_or_ge M 153 with hm153 | hm153
                  · obtain rfl : M = 152 := by omega
                    exact kc152
                  · obtain rfl : M = 153 := by omega
                    exact kc153
              · rcases Nat.lt_or_ge M 156 with hm156 | hm156
                · rcases Nat.lt_or_ge M 155 with hm155 | hm155
                  · obtain rfl : M = 154 := by omega
                    exact kc154
                  · obtain rfl : M = 155 := by omega
                    exact kc155
                · rcases Nat.lt_or_ge M 157 with hm157 | hm157
                  · obtain rfl : M = 156 := by omega
                    exact kc156
                  · obtain rfl : M = 157 := by omega
                    exact kc157
          · rcases Nat.lt_or_ge M 165 with hm165 | hm165
            · rcases Nat.lt_or_ge M 161 with hm161 | hm161
              · rcases Nat.lt_or_ge M 159 with hm159 | hm159
                · obtain rfl : M = 158 := by omega
                  exact kc158
                · rcases Nat.lt_or_ge M 160 with hm160 | hm160
                  · obtain rfl : M = 159 := by omega
                    exact kc159
                  · obtain rfl : M = 160 := by omega
                    exact kc160
              · rcases Nat.lt_or_ge M 163 with hm163 | hm163
                · rcases Nat.lt_or_ge M 162 with hm162 | hm162
                  · obtain rfl : M = 161 := by omega
                    exact kc161
                  · obtain rfl : M = 162 := by omega
                    exact kc162
                · rcases Nat.lt_or_ge M 164 with hm164 | hm164
                  · obtain rfl : M = 163 := by omega
                    exact kc163
                  · obtain rfl : M = 164 := by omega
                    exact kc164
            · rcases Nat.lt_or_ge M 169 with hm169 | hm169
              · rcases Nat.lt_or_ge M 167 with hm167 | hm167
                · rcases Nat.lt_or_ge M 166 with hm166 | hm166
                  · obtain rfl : M = 165 := by omega
                    exact kc165
                  · obtain rfl : M = 166 := by omega
                    exact kc166
                · rcases Nat.lt_or_ge M 168 with hm168 | hm168
                  · obtain rfl : M = 167 := by omega
                    exact kc167
                  · obtain rfl : M = 168 := by omega
                    exact kc168
              · rcases Nat.lt_or_ge M 171 with hm171 | hm171
                · rcases Nat.lt_or_ge M 170 with hm170 | hm170
                  · obtain rfl : M = 169 := by omega
                    exact kc169
                  · obtain rfl : M = 170 := by omega
                    exact kc170
                · rcases Nat.lt_or_ge M 172 with hm172 | hm172
                  · obtain rfl : M = 171 := by omega
                    exact kc171
                  · obtain rfl : M = 172 := by omega
                    exact kc172
      · rcases Nat.lt_or_ge M 202 with hm202 | hm202
        · rcases Nat.lt_or_ge M 187 with hm187 | hm187
          · rcases Nat.lt_or_ge M 180 with hm180 | hm180
            · rcases Nat.lt_or_ge M 176 with hm176 | hm176
              · rcases Nat.lt_or_ge M 174 with hm174 | hm174
                · obtain rfl : M = 173 := by omega
                  exact kc173
                · rcases Nat.lt_or_ge M 175 with hm175 | hm175
                  · obtain rfl : M = 174 := by omega
                    exact kc174
                  · obtain rfl : M = 175 := by omega
                    exact kc175
              · rcases Nat.lt_or_ge M 178 with hm178 | hm178
                · rcases Nat.lt_or_ge M 177 with hm177 | hm177
                  · obtain rfl : M = 176 := by omega
                    exact kc176
                  · obtain rfl : M = 177 := by omega
                    exact kc177
                · rcases Nat.lt_or_ge M 179 with hm179 | hm179
                  · obtain rfl : M = 178 := by omega
                    exact kc178
                  · obtain rfl : M = 179 := by omega
                    exact kc179
            · rcases Nat.lt_or_ge M 183 with hm183 | hm183
              · rcases Nat.lt_or_ge M 181 with hm181 | hm181
                · obtain rfl : M = 180 := by omega
                  exact kc180
                · rcases Nat.lt_or_ge M 182 with hm182 | hm182
                  · obtain rfl : M = 181 := by omega
                    exact kc181
                  · obtain rfl : M = 182 := by omega
                    exact kc182
              · rcases Nat.lt_or_ge M 185 with hm185 | hm185
                · rcases Nat.lt_or_ge M 184 with hm184 | hm184
                  · obtain rfl : M = 183 := by omega
                    exact kc183
                  · obtain rfl : M = 184 := by omega
                    exact kc184
                · rcases Nat.lt_or_ge M 186 with hm186 | hm186
                  · obtain rfl : M = 185 := by omega
                    exact kc185
                  · obtain rfl : M = 186 := by omega
                    exact kc186
          · rcases Nat.lt_or_ge M 194 with hm194 | hm194
            · rcases Nat.lt_or_ge M 190 with hm190 | hm190
              · rcases Nat.lt_or_ge M 188 with hm188 | hm188
                · obtain rfl : M = 187 := by omega
                  exact kc187
                · rcases Nat.lt_or_ge M 189 with hm189 | hm189
                  · obtain rfl : M = 188 := by omega
                    exact kc188
                  · obtain rfl : M = 189 := by omega
                    exact kc189
              · rcases Nat.lt_or_ge M 192 with hm192 | hm192
                · rcases Nat.lt_or_ge M 191 with hm191 | hm191
                  · obtain rfl : M = 190 := by omega
                    exact kc190
                  · obtain rfl : M = 191 := by omega
                    exact kc191
                · rcases Nat.lt_or_ge M 193 with hm193 | hm193
                  · obtain rfl : M = 192 := by omega
                    exact kc192
                  · obtain rfl : M = 193 := by omega
                    exact kc193
            · rcases Nat.lt_or_ge M 198 with hm198 | hm198
              · rcases Nat.lt_or_ge M 196 with hm196 | hm196
                · rcases Nat.lt_or_ge M 195 with hm195 | hm195
                  · obtain rfl : M = 194 := by omega
                    exact kc194
                  · obtain rfl : M = 195 := by omega
                    exact kc195
                · rcases Nat.lt_or_ge M 197 with hm197 | hm197
                  · obtain rfl : M = 196 := by omega
                    exact kc196
                  · obtain rfl : M = 197 := by omega
                    exact kc197
              · rcases Nat.lt_or_ge M 200 with hm200 | hm200
                · rcases Nat.lt_or_ge M 199 with hm199 | hm199
                  · obtain rfl : M = 198 := by omega
                    exact kc198
                  · obtain rfl : M = 199 := by omega
                    exact kc199
                · rcases Nat.lt_or_ge M 201 with hm201 | hm201
                  · obtain rfl : M = 200 := by omega
                    exact kc200
                  · obtain rfl : M = 201 := by omega
                    exact kc201
        · rcases Nat.lt_or_ge M 216 with hm216 | hm216
          · rcases Nat.lt_or_ge M 209 with hm209 | hm209
            · rcases Nat.lt_or_ge M 205 with hm205 | hm205
              · rcases Nat.lt_or_ge M 203 with hm203 | hm203
                · obtain rfl : M = 202 := by omega
                  exact kc202
                · rcases Nat.lt_or_ge M 204 with hm204 | hm204
                  · obtain rfl : M = 203 := by omega
                    exact kc203
                  · obtain rfl : M = 204 := by omega
                    exact kc204
              · rcases Nat.lt_or_ge M 207 with hm207 | hm207
                · rcases Nat.lt_or_ge M 206 with hm206 | hm206
                  · obtain rfl : M = 205 := by omega
                    exact kc205
                  · obtain rfl : M = 206 := by omega
                    exact kc206
                · rcases Nat.lt_or_ge M 208 with hm208 | hm208
                  · obtain rfl : M = 207 := by omega
                    exact kc207
                  · obtain rfl : M = 208 := by omega
                    exact kc208
            · rcases Nat.lt_or_ge M 212 with hm212 | hm212
              · rcases Nat.lt_or_ge M 210 with hm210 | hm210
                · obtain rfl : M = 209 := by omega
                  exact kc209
                · rcases Nat.lt_or_ge M 211 with hm211 | hm211
                  · obtain rfl : M = 210 := by omega
                    exact kc210
                  · obtain rfl : M = 211 := by omega
                    exact kc211
              · rcases Nat.lt_or_ge M 214 with hm214 | hm214
                · rcases Nat.lt_or_ge M 213 with hm213 | hm213
                  · obtain rfl : M = 212 := by omega
                    exact kc212
                  · obtain rfl : M = 213 := by omega
                    exact kc213
                · rcases Nat.lt_or_ge M 215 with hm215 | hm215
                  · obtain rfl : M = 214 := by omega
                    exact kc214
                  · obtain rfl : M = 215 := by omega
                    exact kc215
          · rcases Nat.lt_or_ge M 223 with hm223 | hm223
            · rcases Nat.lt_or_ge M 219 with hm219 | hm219
              · rcases Nat.lt_or_ge M 217 with hm217 | hm217
                · obtain rfl : M = 216 := by omega
                  exact kc216
                · rcases Nat.lt_or_ge M 218 with hm218 | hm218
                  · obtain rfl : M = 217 := by omega
                    exact kc217
                  · obtain rfl : M = 218 := by omega
                    exact kc218
              · rcases Nat.lt_or_ge M 221 with hm221 | hm221
                · rcases Nat.lt_or_ge M 220 with hm220 | hm220
                  · obtain rfl : M = 219 := by omega
                    exact kc219
                  · obtain rfl : M = 220 := by omega
                    exact kc220
                · rcases Nat.lt_or_ge M 222 with hm222 | hm222
                  · obtain rfl : M = 221 := by omega
                    exact kc221
                  · obtain rfl : M = 222 := by omega
                    exact kc222
            · rcases Nat.lt_or_ge M 227 with hm227 | hm227
              · rcases Nat.lt_or_ge M 225 with hm225 | hm225
                · rcases Nat.lt_or_ge M 224 with hm224 | hm224
                  · obtain rfl : M = 223 := by omega
                    exact kc223
                  · obtain rfl : M = 224 := by omega
                    exact kc224
                · rcases Nat.lt_or_ge M 226 with hm226 | hm226
                  · obtain rfl : M = 225 := by omega
                    exact kc225
                  · obtain rfl : M = 226 := by omega
                    exact kc226
              · rcases Nat.lt_or_ge M 229 with hm229 | hm229
                · rcases Nat.lt_or_ge M 228 with hm228 | hm228
                  · obtain rfl : M = 227 := by omega
                    exact kc227
                  · obtain rfl : M = 228 := by omega
                    exact kc228
                · rcases Nat.lt_or_ge M 230 with hm230 | hm230
                  · obtain rfl : M = 229 := by omega
                    exact kc229
                  · obtain rfl : M = 230 := by omega
                    exact kc230
set_option maxRecDepth 100000 in
theorem ok_tb1 {M : Nat} (h : M < 231) : (a_tb M).all (ok_row M) = true := by
  have h0 : 0 ≤ M := Nat.zero_le M
  · rcases Nat.lt_or_ge M 115 with hm115 | hm115
    · rcases Nat.lt_or_ge M 57 with hm57 | hm57
      · rcases Nat.lt_or_ge M 28 with hm28 | hm28
        · rcases Nat.lt_or_ge M 14 with hm14 | hm14
          · rcases Nat.lt_or_ge M 7 with hm7 | hm7
            · rcases Nat.lt_or_ge M 3 with hm3 | hm3
              · rcases Nat.lt_or_ge M 1 with hm1 | hm1
                · obtain rfl : M = 0 := by omega
                  exact k0
                · rcases Nat.lt_or_ge M 2 with hm2 | hm2
                  · obtain rfl : M = 1 := by omega
                    exact k1
                  · obtain rfl : M = 2 := by omega
                    exact k2
              · rcases Nat.lt_or_ge M 5 with hm5 | hm5
                · rcases Nat.lt_or_ge M 4 with hm4 | hm4
                  · obtain rfl : M = 3 := by omega
                    exact k3
                  · obtain rfl : M = 4 := by omega
                    exact k4
                · rcases Nat.lt_or_ge M 6 with hm6 | hm6
                  · obtain rfl : M = 5 := by omega
                    exact k5
                  · obtain rfl : M = 6 := by omega
                    exact k6
            · rcases Nat.lt_or_ge M 10 with hm10 | hm10
              · rcases Nat.lt_or_ge M 8 with hm8 | hm8
                · obtain rfl : M = 7 := by omega
                  exact k7
                · rcases Nat.lt_or_ge M 9 with hm9 | hm9
                  · obtain rfl : M = 8 := by omega
                    exact k8
                  · obtain rfl : M = 9 := by omega
                    exact k9
              · rcases Nat.lt_or_ge M 12 with hm12 | hm12
                · rcases Nat.lt_or_ge M 11 with hm11 | hm11
                  · obtain rfl : M = 10 := by omega
                    exact k10
                  · obtain rfl : M = 11 := by omega
                    exact k11
                · rcases Nat.lt_or_ge M 13 with hm13 | hm13
                  · obtain rfl : M = 12 := by omega
                    exact k12
                  · obtain rfl : M = 13 := by omega
                    exact k13
          · rcases Nat.lt_or_ge M 21 with hm21 | hm21
            · rcases Nat.lt_or_ge M 17 with hm17 | hm17
              · rcases Nat.lt_or_ge M 15 with hm15 | hm15
                · obtain rfl : M = 14 := by omega
                  exact k14
                · rcases Nat.lt_or_ge M 16 with hm16 | hm16
                  · obtain rfl : M = 15 := by omega
                    exact k15
                  · obtain rfl : M = 16 := by omega
                    exact k16
              · rcases Nat.lt_or_ge M 19 with hm19 | hm19
                · rcases Nat.lt_or_ge M 18 with hm18 | hm18
                  · obtain rfl : M = 17 := by omega
                    exact k17
                  · obtain rfl : M = 18 := by omega
                    exact k18
                · rcases Nat.lt_or_ge M 20 with hm20 | hm20
                  · obtain rfl : M = 19 := by omega
                    exact k19
                  · obtain rfl : M = 20 := by omega
                    exact k20
            · rcases Nat.lt_or_ge M 24 with hm24 | hm24
              · rcases Nat.lt_or_ge M 22 with hm22 | hm22
                · obtain rfl : M = 21 := by omega
                  exact k21
                · rcases Nat.lt_or_ge M 23 with hm23 | hm23
                  · obtain rfl : M = 22 := by omega
                    exact k22
                  · obtain rfl : M = 23 := by omega
                    exact k23
              · rcases Nat.lt_or_ge M 26 with hm26 | hm26
                · rcases Nat.lt_or_ge M 25 with hm25 | hm25
                  · obtain rfl : M = 24 := by omega
                    exact k24
                  · obtain rfl : M = 25 := by omega
                    exact k25
                · rcases Nat.lt_or_ge M 27 with hm27 | hm27
                  · obtain rfl : M = 26 := by omega
                    exact k26
                  · obtain rfl : M = 27 := by omega
                    exact k27
        · rcases Nat.lt_or_ge M 42 with hm42 | hm42
          · rcases Nat.lt_or_ge M 35 with hm35 | hm35
            · rcases Nat.lt_or_ge M 31 with hm31 | hm31
              · rcases Nat.lt_or_ge M 29 with hm29 | hm29
                · obtain rfl : M = 28 := by omega
                  exact k28
                · rcases Nat.lt_or_ge M 30 with hm30 | hm30
                  · obtain rfl : M = 29 := by omega
                    exact k29
                  · obtain rfl : M = 30 := by omega
                    exact k30
              · rcases Nat.lt_or_ge M 33 with hm33 | hm33
                · rcases Nat.lt_or_ge M 32 with hm32 | hm32
                  · obtain rfl : M = 31 := by omega
                    exact k31
                  · obtain rfl : M = 32 := by omega
                    exact k32
                · rcases Nat.lt_or_ge M 34 with hm34 | hm34
                  · obtain rfl : M = 33 := by omega
                    exact k33
                  · obtain rfl : M = 34 := by omega
                    exact k34
            · rcases Nat.lt_or_ge M 38 with hm38 | hm38
              · rcases Nat.lt_or_ge M 36 with hm36 | hm36
                · obtain rfl : M = 35 := by omega
                  exact k35
                · rcases Nat.lt_or_ge M 37 with hm37 | hm37
                  · obtain rfl : M = 36 := by omega
                    exact k36
                  · obtain rfl : M = 37 := by omega
                    exact k37
              · rcases Nat.lt_or_ge M 40 with hm40 | hm40
                · rcases Nat.lt_or_ge M 39 with hm39 | hm39
                  · obtain rfl : M = 38 := by omega
                    exact k38
                  · obtain rfl : M = 39 := by omega
                    exact k39
                · rcases Nat.lt_or_ge M 41 with hm41 | hm41
                  · obtain rfl : M = 40 := by omega
                    exact k40
                  · obtain rfl : M = 41 := by omega
                    exact k41
          · rcases Nat.lt_or_ge M 49 with hm49 | hm49
            · rcases Nat.lt_or_ge M 45 with hm45 | hm45
              · rcases Nat.lt_or_ge M 43 with hm43 | hm43
                · obtain rfl : M = 42 := by omega
                  exact k42
                · rcases Nat.lt_or_ge M 44 with hm44 | hm44
                  · obtain rfl : M = 43 := by omega
                    exact k43
                  · obtain rfl : M = 44 := by omega
                    exact k44
              · rcases Nat.lt_or_ge M 47 with hm47 | hm47
                · rcases Nat.lt_or_ge M 46 with hm46 | hm46
                  · obtain rfl : M = 45 := by omega
                    exact k45
                  · obtain rfl : M = 46 := by omega
                    exact k46
                · rcases Nat.lt_or_ge M 48 with hm48 | hm48
                  · obtain rfl : M = 47 := by omega
                    exact k47
                  · obtain rfl : M = 48 := by omega
                    exact k48
            · rcases Nat.lt_or_ge M 53 with hm53 | hm53
              · rcases Nat.lt_or_ge M 51 with hm51 | hm51
                · rcases Nat.lt_or_ge M 50 with hm50 | hm50
                  · obtain rfl : M = 49 := by omega
                    exact k49
                  · obtain rfl : M = 50 := by omega
                    exact k50
                · rcases Nat.lt_or_ge M 52 with hm52 | hm52
                  · obtain rfl : M = 51 := by omega
                    exact k51
                  · obtain rfl : M = 52 := by omega
                    exact k52
              · rcases Nat.lt_or_ge M 55 with hm55 | hm55
                · rcases Nat.lt_or_ge M 54 with hm54 | hm54
                  · obtain rfl : M = 53 := by omega
                    exact k53
                  · obtain rfl : M = 54 := by omega
                    exact k54
                · rcases Nat.lt_or_ge M 56 with hm56 | hm56
                  · obtain rfl : M = 55 := by omega
                    exact k55
                  · obtain rfl : M = 56 := by omega
                    exact k56
      · rcases Nat.lt_or_ge M 86 with hm86 | hm86
        · rcases Nat.lt_or_ge M 71 with hm71 | hm71
          · rcases Nat.lt_or_ge M 64 with hm64 | hm64
            · rcases Nat.lt_or_ge M 60 with hm60 | hm60
              · rcases Nat.lt_or_ge M 58 with hm58 | hm58
                · obtain rfl : M = 57 := by omega
                  exact k57
                · rcases Nat.lt_or_ge M 59 with hm59 | hm59
                  · obtain rfl : M = 58 := by omega
                    exact k58
                  · obtain rfl : M = 59 := by omega
                    exact k59
              · rcases Nat.lt_or_ge M 62 with hm62 | hm62
                · rcases Nat.lt_or_ge M 61 with hm61 | hm61
                  · obtain rfl : M = 60 := by omega
                    exact k60
                  · obtain rfl : M = 61 := by omega
                    exact k61
                · rcases Nat.lt_or_ge M 63 with hm63 | hm63
                  · obtain rfl : M = 62 := by omega
                    exact k62
                  · obtain rfl : M = 63 := by omega
                    exact k63
            · rcases Nat.lt_or_ge M 67 with hm67 | hm67
              · rcases Nat.lt_or_ge M 65 with hm65 | hm65
                · obtain rfl : M = 64 := by omega
                  exact k64
                · rcases Nat.lt_or_ge M 66 with hm66 | hm66
                  · obtain rfl : M = 65 := by omega
                    exact k65
                  · obtain rfl : M = 66 := by omega
                    exact k66
              · rcases Nat.lt_or_ge M 69 with hm69 | hm69
                · rcases Nat.lt_or_ge M 68 with hm68 | hm68
                  · obtain rfl : M = 67 := by omega
                    exact k67
                  · obtain rfl : M = 68 := by omega
                    exact k68
                · rcases Nat.lt_or_ge M 70 with hm70 | hm70
                  · obtain rfl : M = 69 := by omega
                    exact k69
                  · obtain rfl : M = 70 := by omega
                    exact k70
          · rcases Nat.lt_or_ge M 78 with hm78 | hm78
            · rcases Nat.lt_or_ge M 74 with hm74 | hm74
              · rcases Nat.lt_or_ge M 72 with hm72 | hm72
                · obtain rfl : M = 71 := by omega
                  exact k71
                · rcases Nat.lt_or_ge M 73 with hm73 | hm73
                  · obtain rfl : M = 72 := by omega
                    exact k72
                  · obtain rfl : M = 73 := by omega
                    exact k73
              · rcases Nat.lt_or_ge M 76 with hm76 | hm76
                · rcases Nat.lt_or_ge M 75 with hm75 | hm75
                  · obtain rfl : M = 74 := by omega
                    exact k74
                  · obtain rfl : M = 75 := by omega
                    exact k75
                · rcases Nat.lt_or_ge M 77 with hm77 | hm77
                  · obtain rfl : M = 76 := by omega
                    exact k76
                  · obtain rfl : M = 77 := by omega
                    exact k77
            · rcases Nat.lt_or_ge M 82 with hm82 | hm82
              · rcases Nat.lt_or_ge M 80 with hm80 | hm80
                · rcases Nat.lt_or_ge M 79 with hm79 | hm79
                  · obtain rfl : M = 78 := by omega
                    exact k78
                  · obtain rfl : M = 79 := by omega
                    exact k79
                · rcases Nat.lt_or_ge M 81 with hm81 | hm81
                  · obtain rfl : M = 80 := by omega
                    exact k80
                  · obtain rfl : M = 81 := by omega
                    exact k81
              · rcases Nat.lt_or_ge M 84 with hm84 | hm84
                · rcases Nat.lt_or_ge M 83 with hm83 | hm83
                  · obtain rfl : M = 82 := by omega
                    exact k82
                  · obtain rfl : M = 83 := by omega
                    exact k83
                · rcases Nat.lt_or_ge M 85 with hm85 | hm85
                  · obtain rfl : M = 84 := by omega
                    exact k84
                  · obtain rfl : M = 85 := by omega
                    exact k85
        · rcases Nat.lt_or_ge M 100 with hm100 | hm100
          · rcases Nat.lt_or_ge M 93 with hm93 | hm93
            · rcases Nat.lt_or_ge M 89 with hm89 | hm89
              · rcases Nat.lt_or_ge M 87 with hm87 | hm87
                · obtain rfl : M = 86 := by omega
                  exact k86
                · rcases Nat.lt_or_ge M 88 with hm88 | hm88
                  · obtain rfl : M = 87 := by omega
                    exact k87
                  · obtain rfl : M = 88 := by omega
                    exact k88
              · rcases Nat.lt_or_ge M 91 with hm91 | hm91
                · rcases Nat.lt_or_ge M 90 with hm90 | hm90
                  · obtain rfl : M = 89 := by omega
                    exact k89
                  · obtain rfl : M = 90 := by omega
                    exact k90
                · rcases Nat.lt_or_ge M 92 with hm92 | hm92
                  · obtain rfl : M = 91 := by omega
                    exact k91
                  · obtain rfl : M = 92 := by omega
                    exact k92
            · rcases Nat.lt_or_ge M 96 with hm96 | hm96
              · rcases Nat.lt_or_ge M 94 with hm94 | hm94
                · obtain rfl : M = 93 := by omega
                  exact k93
                · rcases Nat.lt_or_ge M 95 with hm95 | hm95
                  · obtain rfl : M = 94 := by omega
                    exact k94
                  · obtain rfl : M = 95 := by omega
                    exact k95
              · rcases Nat.lt_or_ge M 98 with hm98 | hm98
                · rcases Nat.lt_or_ge M 97 with hm97 | hm97
                  · obtain rfl : M = 96 := by omega
                    exact k96
                  · obtain rfl : M = 97 := by omega
                    exact k97
                · rcases Nat.lt_or_ge M 99 with hm99 | hm99
                  · obtain rfl : M = 98 := by omega
                    exact k98
                  · obtain rfl : M = 99 := by omega
                    exact k99
          · rcases Nat.lt_or_ge M 107 with hm107 | hm107
            · rcases Nat.lt_or_ge M 103 with hm103 | hm103
              · rcases Nat.lt_or_ge M 101 with hm101 | hm101
                · obtain rfl : M = 100 := by omega
                  exact k100
                · rcases Nat.lt_or_ge M 102 with hm102 | hm102
                  · obtain rfl : M = 101 := by omega
                    exact k101
                  · obtain rfl : M = 102 := by omega
                    exact k102
              · rcases Nat.lt_or_ge M 105 with hm105 | hm105
                · rcases Nat.lt_or_ge M 104 with hm104 | hm104
                  · obtain rfl : M = 103 := by omega
                    exact k103
                  · obtain rfl : M = 104 := by omega
                    exact k104
                · rcases Nat.lt_or_ge M 106 with hm106 | hm106
                  · obtain rfl : M = 105 := by omega
                    exact k105
                  · obtain rfl : M = 106 := by omega
                    exact k106
            · rcases Nat.lt_or_ge M 111 with hm111 | hm111
              · rcases Nat.lt_or_ge M 109 with hm109 | hm109
                · rcases Nat.lt_or_ge M 108 with hm108 | hm108
                  · obtain rfl : M = 107 := by omega
                    exact k107
                  · obtain rfl : M = 108 := by omega
                    exact k108
                · rcases Nat.lt_or_ge M 110 with hm110 | hm110
                  · obtain rfl : M = 109 := by omega
                    exact k109
                  · obtain rfl : M = 110 := by omega
                    exact k110
              · rcases Nat.lt_or_ge M 113 with hm113 | hm113
                · rcases Nat.lt_or_ge M 112 with hm112 | hm112
                  · obtain rfl : M = 111 := by omega
                    exact k111
                  · obtain rfl : M = 112 := by omega
                    exact k112
                · rcases Nat.lt_or_ge M 114 with hm114 | hm114
                  · obtain rfl : M = 113 := by omega
                    exact k113
                  · obtain rfl : M = 114 := by omega
                    exact k114
    · rcases Nat.lt_or_ge M 173 with hm173 | hm173
      · rcases Nat.lt_or_ge M 144 with hm144 | hm144
        · rcases Nat.lt_or_ge M 129 with hm129 | hm129
          · rcases Nat.lt_or_ge M 122 with hm122 | hm122
            · rcases Nat.lt_or_ge M 118 with hm118 | hm118
              · rcases Nat.lt_or_ge M 116 with hm116 | hm116
                · obtain rfl : M = 115 := by omega
                  exact k115
                · rcases Nat.lt_or_ge M 117 with hm117 | hm117
                  · obtain rfl : M = 116 := by omega
                    exact k116
                  · obtain rfl : M = 117 := by omega
                    exact k117
              · rcases Nat.lt_or_ge M 120 with hm120 | hm120
                · rcases Nat.lt_or_ge M 119 with hm119 | hm119
                  · obtain rfl : M = 118 := by omega
                    exact k118
                  · obtain rfl : M = 119 := by omega
                    exact k119
                · rcases Nat.lt_or_ge M 121 with hm121 | hm121
                  · obtain rfl : M = 120 := by omega
                    exact k120
                  · obtain rfl : M = 121 := by omega
                    exact k121
            · rcases Nat.lt_or_ge M 125 with hm125 | hm125
              · rcases Nat.lt_or_ge M 123 with hm123 | hm123
                · obtain rfl : M = 122 := by omega
                  exact k122
                · rcases Nat.lt_or_ge M 124 with hm124 | hm124
                  · obtain rfl : M = 123 := by omega
                    exact k123
                  · obtain rfl : M = 124 := by omega
                    exact k124
              · rcases Nat.lt_or_ge M 127 with hm127 | hm127
                · rcases Nat.lt_or_ge M 126 with hm126 | hm126
                  · obtain rfl : M = 125 := by omega
                    exact k125
                  · obtain rfl : M = 126 := by omega
                    exact k126
                · rcases Nat.lt_or_ge M 128 with hm128 | hm128
                  · obtain rfl : M = 127 := by omega
                    exact k127
                  · obtain rfl : M = 128 := by omega
                    exact k128
          · rcases Nat.lt_or_ge M 136 with hm136 | hm136
            · rcases Nat.lt_or_ge M 132 with hm132 | hm132
              · rcases Nat.lt_or_ge M 130 with hm130 | hm130
                · obtain rfl : M = 129 := by omega
                  exact k129
                · rcases Nat.lt_or_ge M 131 with hm131 | hm131
                  · obtain rfl : M = 130 := by omega
                    exact k130
                  · obtain rfl : M = 131 := by omega
                    exact k131
              · rcases Nat.lt_or_ge M 134 with hm134 | hm134
                · rcases Nat.lt_or_ge M 133 with hm133 | hm133
                  · obtain rfl : M = 132 := by omega
                    exact k132
                  · obtain rfl : M = 133 := by omega
                    exact k133
                · rcases Nat.lt_or_ge M 135 with hm135 | hm135
                  · obtain rfl : M = 134 := by omega
                    exact k134
                  · obtain rfl : M = 135 := by omega
                    exact k135
            · rcases Nat.lt_or_ge M 140 with hm140 | hm140
              · rcases Nat.lt_or_ge M 138 with hm138 | hm138
                · rcases Nat.lt_or_ge M 137 with hm137 | hm137
                  · obtain rfl : M = 136 := by omega
                    exact k136
                  · obtain rfl : M = 137 := by omega
                    exact k137
                · rcases Nat.lt_or_ge M 139 with hm139 | hm139
                  · obtain rfl : M = 138 := by omega
                    exact k138
                  · obtain rfl : M = 139 := by omega
                    exact k139
              · rcases Nat.lt_or_ge M 142 with hm142 | hm142
                · rcases Nat.lt_or_ge M 141 with hm141 | hm141
                  · obtain rfl : M = 140 := by omega
                    exact k140
                  · obtain rfl : M = 141 := by omega
                    exact k141
                · rcases Nat.lt_or_ge M 143 with hm143 | hm143
                  · obtain rfl : M = 142 := by omega
                    exact k142
                  · obtain rfl : M = 143 := by omega
                    exact k143
        · rcases Nat.lt_or_ge M 158 with hm158 | hm158
          · rcases Nat.lt_or_ge M 151 with hm151 | hm151
            · rcases Nat.lt_or_ge M 147 with hm147 | hm147
              · rcases Nat.lt_or_ge M 145 with hm145 | hm145
                · obtain rfl : M = 144 := by omega
                  exact k144
                · rcases Nat.lt_or_ge M 146 with hm146 | hm146
                  · obtain rfl : M = 145 := by omega
                    exact k145
                  · obtain rfl : M = 146 := by omega
                    exact k146
              · rcases Nat.lt_or_ge M 149 with hm149 | hm149
                · rcases Nat.lt_or_ge M 148 with hm148 | hm148
                  · obtain rfl : M = 147 := by omega
                    exact k147
                  · obtain rfl : M = 148 := by omega
                    exact k148
                · rcases Nat.lt_or_ge M 150 with hm150 | hm150
                  · obtain rfl : M = 149 := by omega
                    exact k149
                  · obtain rfl : M = 150 := by omega
                    exact k150
            · rcases Nat.lt_or_ge M 154 with hm154 | hm154
              · rcases Nat.lt_or_ge M 152 with hm152 | hm152
                · obtain rfl : M = 151 := by omega
                  exact k151
                · rcases Nat.lt_or_ge M 153 with hm153 | hm153
                  · obtain rfl : M = 152 := by omega
                    exact k152
                  · obtain rfl : M = 153 := by omega
                    exact k153
              · rcases Nat.lt_or_ge M 156 with hm156 | hm156
                · rcases Nat.lt_or_ge M 155 with hm155 | hm155
                  · obtain rfl : M = 154 := by omega
                    exact k154
                  · obtain rfl : M = 155 := by omega
                    exact k155
                · rcases Nat.lt_or_ge M 157 with hm157 | hm157
                  · obtain rfl : M = 156 := by omega
                    exact k156
                  · obtain rfl : M = 157 := by omega
                    exact k157
          · rcases Nat.lt_or_ge M 165 with hm165 | hm165
            · rcases Nat.lt_or_ge M 161 with hm161 | hm161
              · rcases Nat.lt_or_ge M 159 with hm159 | hm159
                · obtain rfl : M = 158 := by omega
                  exact k158
                · rcases Nat.lt_or_ge M 160 with hm160 | hm160
                  · obtain rfl : M = 159 := by omega
                    exact k159
                  · obtain rfl : M = 160 := by omega
                    exact k160
              · rcases Nat.lt_or_ge M 163 with hm163 | hm163
                · rcases Nat.lt_or_ge M 162 with hm162 | hm162
                  · obtain rfl : M = 161 := by omega
                    exact k161
                  · obtain rfl : M = 162 := by omega
                    exact k162
                · rcases Nat.lt_or_ge M 164 with hm164 | hm164
                  · obtain rfl : M = 163 := by omega
                    exact k163
                  · obtain rfl : M = 164 := by omega
                    exact k164
            · rcases Nat.lt_or_ge M 169 with hm169 | hm169
              · rcases Nat.lt_or_ge M 167 with hm167 | hm167
                · rcases Nat.lt_or_ge M 166 with hm166 | hm166
                  · obtain rfl : M = 165 := by omega
                    exact k165
                  · obtain rfl : M = 166 := by omega
                    exact k166
                · rcases Nat.lt_or_ge M 168 with hm168 | hm168
                  · obtain rfl : M = 167 := by omega
                    exact k167
                  · obtain rfl : M = 168 := by omega
                    exact k168
              · rcases Nat.lt_or_ge M 171 with hm171 | hm171
                · rcases Nat.lt_or_ge M 170 with hm170 | hm170
                  · obtain rfl : M = 169 := by omega
                    exact k169
                  · obtain rfl : M = 170 := by omega
                    exact k170
                · rcases Nat.lt_or_ge M 172 with hm172 | hm172
                  · obtain rfl : M = 171 := by omega
                    exact k171
                  · obtain rfl : M = 172 := by omega
                    exact k172
      · rcases Nat.lt_or_ge M 202 with hm202 | hm202
        · rcases Nat.lt_or_ge M 187 with hm187 | hm187
          · rcases Nat.lt_or_ge M 180 with hm180 | hm180
            · rcases Nat.lt_or_ge M 176 with hm176 | hm176
              · rcases Nat.lt_or_ge M 174 with hm174 | hm174
                · obtain rfl : M = 173 := by omega
                  exact k173
                · rcases Nat.lt_or_ge M 175 with hm175 | hm175
                  · obtain rfl : M = 174 := by omega
                    exact k174
                  · obtain rfl : M = 175 := by omega
                    exact k175
              · rcases Nat.lt_or_ge M 178 with hm178 | hm178
                · rcases Nat.lt_or_ge M 177 with hm177 | hm177
                  · obtain rfl : M = 176 := by omega
                    exact k176
                  · obtain rfl : M = 177 := by omega
                    exact k177
                · rcases Nat.lt_or_ge M 179 with hm179 | hm179
                  · obtain rfl : M = 178 := by omega
                    exact k178
                  · obtain rfl : M = 179 := by omega
                    exact k179
            · rcases Nat.lt_or_ge M 183 with hm183 | hm183
              · rcases Nat.lt_or_ge M 181 with hm181 | hm181
                · obtain rfl : M = 180 := by omega
                  exact k180
                · rcases Nat.lt_or_ge M 182 with hm182 | hm182
                  · obtain rfl : M = 181 := by omega
                    exact k181
                  · obtain rfl : M = 182 := by omega
                    exact k182
              · rcases Nat.lt_or_ge M 185 with hm185 | hm185
                · rcases Nat.lt_or_ge M 184 with hm184 | hm184
                  · obtain rfl : M = 183 := by omega
                    exact k183
                  · obtain rfl : M = 184 := by omega
                    exact k184
                · rcases Nat.lt_or_ge M 186 with hm186 | hm186
                  · obtain rfl : M = 185 := by omega
                    exact k185
                  · obtain rfl : M = 186 := by omega
                    exact k186
          · rcases Nat.lt_or_ge M 194 with hm194 | hm194
            · rcases Nat.lt_or_ge M 190 with hm190 | hm190
              · rcases Nat.lt_or_ge M 188 with hm188 | hm188
                · obtain rfl : M = 187 := by omega
                  exact k187
                · rcases Nat.lt_or_ge M 189 with hm189 | hm189
                  · obtain rfl : M = 188 := by omega
                    exact k188
                  · obtain rfl : M = 189 := by omega
                    exact k189
              · rcases Nat.lt_or_ge M 192 with hm192 | hm192
                · rcases Nat.lt_or_ge M 191 with hm191 | hm191
                  · obtain rfl : M = 190 := by omega
                    exact k190
                  · obtain rfl : M = 191 := by omega
                    exact k191
                · rcases Nat.lt_or_ge M 193 with hm193 | hm193
                  · obtain rfl : M = 192 := by omega
                    exact k192
                  · obtain rfl : M = 193 := by omega
                    exact k193
            · rcases Nat.lt_or_ge M 198 with hm198 | hm198
              · rcases Nat.lt_or_ge M 196 with hm196 | hm196
                · rcases Nat.lt_or_ge M 195 with hm195 | hm195
                  · obtain rfl : M = 194 := by omega
                    exact k194
                  · obtain rfl : M = 195 := by omega
                    exact k195
                · rcases Nat.lt_or_ge M 197 with hm197 | hm197
                  · obtain rfl : M = 196 := by omega
                    exact k196
                  · obtain rfl : M = 197 := by omega
                    exact k197
              · rcases Nat.lt_or_ge M 200 with hm200 | hm200
                · rcases Nat.lt_or_ge M 199 with hm199 | hm199
                  · obtain rfl : M = 198 := by omega
                    exact k198
                  · obtain rfl : M = 199 := by omega
                    exact k199
                · rcases Nat.lt_or_ge M 201 with hm201 | hm201
                  · obtain rfl : M = 200 := by omega
                    exact k200
                  · obtain rfl : M = 201 := by omega
                    exact k201
        · rcases Nat.lt_or_ge M 216 with hm216 | hm216
          · rcases Nat.lt_or_ge M 209 with hm209 | hm209
            · rcases Nat.lt_or_ge M 205 with hm205 | hm205
              · rcases Nat.lt_or_ge M 203 with hm203 | hm203
                · obtain rfl : M = 202 := by omega
                  exact k202
                · rcases Nat.lt_or_ge M 204 with hm204 | hm204
                  · obtain rfl : M = 203 := by omega
                    exact k203
                  · obtain rfl : M = 204 := by omega
                    exact k204
              · rcases Nat.lt_or_ge M 207 with hm207 | hm207
                · rcases Nat.lt_or_ge M 206 with hm206 | hm206
                  · obtain rfl : M = 205 := by omega
                    exact k205
                  · obtain rfl : M = 206 := by omega
                    exact k206
                · rcases Nat.lt_or_ge M 208 with hm208 | hm208
                  · obtain rfl : M = 207 := by omega
                    exact k207
                  · obtain rfl : M = 208 := by omega
                    exact k208
            · rcases Nat.lt_or_ge M 212 with hm212 | hm212
              · rcases Nat.lt_or_ge M 210 with hm210 | hm210
                · obtain rfl : M = 209 := by omega
                  exact k209
                · rcases Nat.lt_or_ge M 211 with hm211 | hm211
                  · obtain rfl : M = 210 := by omega
                    exact k210
                  · obtain rfl : M = 211 := by omega
                    exact k211
              · rcases Nat.lt_or_ge M 214 with hm214 | hm214
                · rcases Nat.lt_or_ge M 213 with hm213 | hm213
                  · obtain rfl : M = 212 := by omega
                    exact k212
                  · obtain rfl : M = 213 := by omega
                    exact k213
                · rcases Nat.lt_or_ge M 215 with hm215 | hm215
                  · obtain rfl : M = 214 := by omega
                    exact k214
                  · obtain rfl : M = 215 := by omega
                    exact k215
          · rcases Nat.lt_or_ge M 223 with hm223 | hm223
            · rcases Nat.lt_or_ge M 219 with hm219 | hm219
              · rcases Nat.lt_or_ge M 217 with hm217 | hm217
                · obtain rfl : M = 216 := by omega
                  exact k216
                · rcases Nat.lt_or_ge M 218 with hm218 | hm218
                  · obtain rfl : M = 217 := by omega
                    exact k217
                  · obtain rfl : M = 218 := by omega
                    exact k218
              · rcases Nat.lt_or_ge M 221 with hm221 | hm221
                · rcases Nat.lt_or_ge M 220 with hm220 | hm220
                  · obtain rfl : M = 219 := by omega
                    exact k219
                  · obtain rfl : M = 220 := by omega
                    exact k220
                · rcases Nat.lt_or_ge M 222 with hm222 | hm222
                  · obtain rfl : M = 221 := by omega
                    exact k221
                  · obtain rfl : M = 222 := by omega
                    exact k222
            · rcases Nat.lt_or_ge M 227 with hm227 | hm227
              · rcases Nat.lt_or_ge M 225 with hm225 | hm225
                · rcases Nat.lt_or_ge M 224 with hm224 | hm224
                  · obtain rfl : M = 223 := by omega
                    exact k223
                  · obtain rfl : M = 224 := by omega
                    exact k224
                · rcases Nat.lt_or_ge M 226 with hm226 | hm226
                  · obtain rfl : M = 225 := by omega
                    exact k225
                  · obtain rfl : M = 226 := by omega
                    exact k226
              · rcases Nat.lt_or_ge M 229 with hm229 | hm229
                · rcases Nat.lt_or_ge M 228 with hm228 | hm228
                  · obtain rfl : M = 227 := by omega
                    exact k227
                  · obtain rfl : M = 228 := by omega
                    exact k228
                · rcases Nat.lt_or_ge M 230 with hm230 | hm230
                  · obtain rfl : M = 229 := by omega
                    exact k229
                  · obtain rfl : M = 230 := by omega
                    exact k230
theorem ok_tb {M : Nat} (h : M < 231 ∨ M = 234) : (a_tb M).all (ok_row M) = true := by
  rcases h with h | rfl
  · exact ok_tb1 h
  · exact k234
theorem look_mem {l : List (Nat × Ent)} {k : Nat} {E : Ent} (h : l.lookup k = some E) : (k, E) ∈ l := by
  induction l with
  | nil => simp at h
  | cons q l ih =>
    obtain ⟨a, x⟩ := q
    rw [List.lookup_cons] at h
    by_cases hk : k = a
    · subst hk
      simp at h
      subst h
      exact List.mem_cons_self
    · have : (k == a) = false := by simp [hk]
      rw [this] at h
      exact List.mem_cons_of_mem _ (ih h)
theorem ok_fetch {M pc : Nat} {E : Ent} (h : M < 231 ∨ M = 234) (hE : a_code M pc = some E) : ok_row M (pc, E) = true := List.all_eq_true.mp (ok_tb h) _ (look_mem hE)
theorem code_gw {M : Nat} (h : M < 231) : Jvm.Cond.code (a_y M) (a_cc M) (a_mL M) (a_rt M) ∈ gw := List.mem_filter.mpr ⟨List.mem_of_getElem? (kc h), rfl⟩
def a_ws (M : Nat) : List Jvm.Cond := .code (a_y M) (a_cc M) (a_mL M) (a_rt M) :: gw
theorem a_ws_good {M : Nat} (h : M < 231) : GoodIn gw (a_ws M) := fun w hw => by
  rcases List.mem_cons.mp hw with rfl | hw
  · exact gw_good _ (code_gw h)
  · exact gw_good _ hw
def a_rm (M mc ms : Nat) : Room := { frames := a_fr M, cells := mc, slots := ms, locals := a_lc M }
def c_rv (b n0 M : Nat) (r : AV) : Option Value := if (a_mi M).2.1 = true then none else some (c_v b n0 r)
def QM (b n0 : Nat) (D : va_G) (cA : Nat → ClassId) (M : Nat) (r : AV) (h' : Hp) : Array Value → State → Outcome → State → Prop := fun _ st oc t => oc = .returned (c_rv b n0 M r) ∧ va_P D vwCl (c_ws b n0 cA h') t.heap ∧ va_F (fun q => n0 ≤ q) st t
def WB (b n0 : Nat) (D : va_G) (cA : Nat → ClassId) (h : Hp) (U : State) : Prop := va_P D vwCl (c_ws b n0 cA h) U.heap ∧ va_K D vwCl (c_tys cA) U ∧ NB U ∧ U.heap.size = n0 + (h.1.length - 1) ∧ ∃ L, h.1[0]? = some (0, L) ∧ L ≤ 100000 ∧ va_X b L (fun j : Nat => Int32.ofInt (h.2.1 0 j)) U U.heap
def MetS (b n0 : Nat) (D : va_G) (cA : Nat → ClassId) (l : Launch) (M : Nat) (as : List AV) (h : Hp) (r : AV) (h' : Hp) : Prop :=
  Met l (a_y M) (a_ws M) (a_rm M (h'.1.length - h.1.length) (sz h'.1 - sz h.1)) (va_Pc (as.map (c_v b n0)) (WB b n0 D cA h)) (QM b n0 D cA M r h') (h'.1.length - h.1.length) (sz h'.1 - sz h.1) (fun q => n0 ≤ q)
theorem nest_tab {w : Jvm.Cond} (h : i_nest w = true) : w.onTables = true := by cases w <;> first | rfl | (simp [i_nest] at h)
theorem NB.same {u U : State} (h : u.vm = U.vm) (hN : NB u) : NB U := ⟨fun w hw hi => va_Nw.same (nest_tab hi) h (hN.1 w hw hi), va_AO.moved (by rw [h]; exact Vm.Alike.refl _) hN.2⟩
theorem NB.warm {s U : State} (hW : s.WarmedH U.vm) (hN : NB s) : NB U := by
  refine ⟨fun w hw hi => ?_, va_AO.moved hW.alike hN.2⟩
  have h1 := hN.1 w hw hi
  cases w
  case fieldLinkNest => exact va_Nw.warmF hW h1
  case methodLinkNest => exact va_Nw.warmM hW h1
  all_goals (simp [i_nest] at hi)
theorem WB.blind (b n0 : Nat) (D : va_G) (cA : Nat → ClassId) (h : Hp) (av : List Value) : FrameBlind (va_Pc av (WB b n0 D cA h)) := by
  intro a U g mk hq
  obtain ⟨e, hP, hK, hN, hz, L, h1, h2, h3⟩ := hq
  exact ⟨e, hP, va_K.moved (u := U) (U := U.calling g mk a) (Vm.Alike.refl U.vm) hK, NB.same (u := U) (U := U.calling g mk a) rfl hN, hz, L, h1, h2, va_X.moved (u := U) (U := U.calling g mk a) (Vm.Alike.refl U.vm) h3⟩
section CR
variable {p : Program} {l : Launch} {e : Env} {R : Room} {s : State} {m : MethodId} {args : Array Value} {below : List Frame} {meth : Method} {c : Code} {H : Heap} {locs : List Loc} {Q : State → Prop}
theorem W_call {b n0 : Nat} {D : va_G} {cA : Nat → ClassId} {M2 : Nat} {r : AV} {h' : Hp} {cells slots mc ms pc : Nat} {ls : Array Slot} {st0 rest : List Value} {a : Array Value} (hr : va_Run p l e R s m args below meth c H locs cells slots mc ms (F0 m pc ls st0) rest (QM b n0 D cA M2 r h' a) (fun q => n0 ≤ q)) (hS : va_S (fun q => n0 ≤ q) s.heap H locs)
    (kk : ∀ (H1 : Heap) (locs1 : List Loc), va_P D vwCl (c_ws b n0 cA h') H1 → va_S (fun q => n0 ≤ q) s.heap H1 locs1 → W p l e R s m args below meth c H1 locs1 (cells + mc) (slots + ms) Q (F0 m (pc + 3) ls ((c_rv b n0 M2 r).toList ++ rest))) : W p l e R s m args below meth c H locs cells slots Q (F0 m pc ls st0) := by
  intro T hT X
  obtain ⟨v, st₀, t, T', L, h0, X', hL, e1, e2, ⟨hv, hp, hz, hk⟩, st⟩ := hr T hT X
  have hv := Outcome.returned.inj hv
  subst hv
  rw [h0] at hz hk
  obtain ⟨t2, a1, b1⟩ := kk T'.heap (locs ++ L) (by rw [e1]; exact hp) ⟨Nat.le_trans hS.1 (by rw [e1]; exact hz), fun q h1 h2 => by rw [e1, hk q (Nat.lt_of_lt_of_le h1 hS.1) h2]; exact hS.2.1 q h1 h2, fun q hq => by
    rcases List.mem_append.mp hq with h | h
    · exact hS.2.2 q h
    · exact hL q h⟩ T' rfl X'
  exact ⟨t2, st t2 a1, b1⟩
theorem snd_ret {b n0 l0 z0 : Nat} {D : va_G} {cA : Nat → ClassId} {M : Nat} (hC : Cx b n0 l0 D cA p R s m args meth c M) (hvd : (a_mi M).2.1 = true ↔ a_rt M = none)
    {E : Ent} {pc : Nat} {lo : LO} {st : List AV} {h h' : Hp} {r : AV} (hok : ok_row M (pc, E) = true) (hs : a_step a_mi E pc lo st h = r_ret r h') {ls : Array Slot} (hF : Fw b n0 l0 z0 D cA s h H locs) (hS : SOK st) :
    W p l e R s m args below meth c H locs (h.1.length - l0) (sz h.1 - z0) (MQ below (QM b n0 D cA M r h') args s (h'.1.length - l0) (sz h'.1 - z0) (fun q => n0 ≤ q)) (F0 m pc ls (st.map (c_v b n0))) := by
  obtain ⟨hx, hb, hml, hown, hts, hNB, hK, hret, hlk, hnm, hfr, hlc, hbn, hsz, hl0, hq0⟩ := hC
  obtain ⟨hP, hS0, hOK, hg1, hg2, L0, hk0, hL0, hX⟩ := id hF
  obtain ⟨hdec, hlnk⟩ := ok_row_s hok
  obtain ⟨e1, e2, e3⟩ := a_step_ret hs hS
  subst e1
  obtain ⟨i, an, ks, val⟩ := E
  have hq : ∀ (v : Option Value), v = c_rv b n0 M r → ∀ t : State, t.heap = H → s.WarmedH t.vm → QM b n0 D cA M r h' args s (.returned v) t := fun v hv t ht _ => ⟨by rw [hv], by rw [ht]; exact hP, hS0.F ht⟩
  rcases e3 with ⟨x, rfl, rfl, rfl, e4⟩ | ⟨x, rfl, rfl, rfl⟩ | ⟨rfl, rfl, rfl⟩
  · simp only [ok_link] at hlnk
    split at hlnk
    · rename_i hi
      have hv : some (Value.int (Int32.ofInt x)) = c_rv b n0 M (vi x) := by
        unfold c_rv
        rw [if_neg (fun z => by rw [hvd.mp z] at hi; cases hi)]; rfl
      exact W.zret hx hb (hret.trans hi) rfl (hq _ hv) hS0.2.2 (ok_dec_n hdec rfl) hlk
    · split at hlnk
      · rename_i hi
        have hv : some (Value.int (Int32.ofInt x)) = c_rv b n0 M (vi x) := by
          unfold c_rv
          rw [if_neg (fun z => by rw [hvd.mp z] at hi; cases hi)]; rfl
        have ha : an = [1] := of_decide_eq_true hlnk
        have e5 : x = 0 ∨ x = 1 := by
          rcases e4 with e4 | e4
          · have e4 : an = [0] := e4
            rw [ha] at e4; cases e4
          · exact e4.2
        exact W.zret hx hb (hret.trans hi) (by rcases e5 with rfl | rfl <;> decide) (hq _ hv) hS0.2.2 (ok_dec_n hdec rfl) hlk
      · cases hlnk
  · have hi : a_rt M = some (.object "VersionVault$Row") := of_decide_eq_true hlnk
    have hv : some (Value.ref (c_g b n0 x)) = c_rv b n0 M (vr x) := by
      unfold c_rv
      rw [if_neg (fun z => by rw [hvd.mp z] at hi; cases hi)]; rfl
    exact W.aret hx hb (hret.trans hi) (Or.inl ⟨_, rfl⟩) (Or.inr ⟨_, rfl⟩) (hq _ hv) hS0.2.2 (ok_dec_n hdec rfl) hlk
  · have hi : a_rt M = none := of_decide_eq_true hlnk
    have hv : none = c_rv b n0 M (vi 0) := by
      unfold c_rv
      rw [if_pos (hvd.mpr hi)]
    exact W.vret hx hb (hret.trans hi) (hq _ hv) hS0.2.2 (ok_dec_n hdec rfl) hlk
theorem ok_m_s {M : Nat} (h : M < 231) : w_ok (a_wi M) (.initialized (a_y M).cls) = true ∧ plainName (a_y M).cls = true ∧ (a_y M).cls ≠ "java/lang/invoke/MethodHandle" ∧ (a_y M).cls ≠ "java/lang/invoke/VarHandle" ∧ (parseMethodDescriptor (a_y M).desc).map (fun d => d.parameters.length) = some ((a_mi M).1 - (if (a_mi M).2.2 = 0 then 0 else 1)) ∧ (if (a_mi M).2.2 = 0 then True else 0 < (a_mi M).1) ∧ ((a_mi M).2.1 = true ↔ a_rt M = none) ∧ 20 ≤ a_lc M ∧ 1 ≤ a_fr M := by
  have h1 := okm h
  unfold ok_m at h1
  simp only [Bool.and_eq_true] at h1
  obtain ⟨⟨⟨⟨⟨⟨⟨⟨a1, a2⟩, a3⟩, a4⟩, a5⟩, a6⟩, a7⟩, a8⟩, a9⟩ := h1
  exact ⟨a1, a2, of_decide_eq_true a3, of_decide_eq_true a4, of_decide_eq_true a5, of_decide_eq_true a6, of_decide_eq_true a7, of_decide_eq_true a8, of_decide_eq_true a9⟩
theorem ok_room_s {M M2 : Nat} (h : ok_room M M2 = true) : a_fr M2 + 1 ≤ a_fr M ∧ 8 + (a_mL M2 + 11) + a_lc M2 ≤ a_lc M := by
  unfold ok_room at h
  rw [Bool.and_eq_true] at h
  exact ⟨of_decide_eq_true h.1, of_decide_eq_true h.2⟩
theorem ok_lnk_s {M ix M2 w ns : Nat} (h : ok_lnk M ix M2 w ns = true) : Jvm.Cond.methodLink (a_y M).cls ix (a_y M2) ∈ gw ∨ Jvm.Cond.methodLinkNest (a_y M).cls ix (a_y M2) "VersionVault" ∈ lw_tbl := by
  unfold ok_lnk at h
  split at h
  · exact Or.inl (w_ok_in h)
  · exact Or.inr (w_is_in h)
theorem ok_cls_s {M2 : Nat} (h : ok_cls M2 = true) : 0 < (a_mi M2).2.2 ∧ ∃ q : vw_C, vwCl[(a_mi M2).2.2 - 1]? = some q ∧ q.1 = (a_y M2).cls := by
  unfold ok_cls at h
  rw [Bool.and_eq_true] at h
  refine ⟨of_decide_eq_true h.1, ?_⟩
  have h2 := of_decide_eq_true h.2
  cases hq : vwCl[(a_mi M2).2.2 - 1]? with
  | none => rw [hq] at h2; cases h2
  | some q => rw [hq] at h2; exact ⟨q, rfl, Option.some.inj h2⟩
theorem a_recv_s {h : Hp} {ci : Nat} {as : List AV} (hr : a_recv h ci as = true) : ∃ a t, as = vr a :: t ∧ h.1[a]? = some (10 + ci, (a_cls ci).1) ∧ 0 < a := by
  unfold a_recv at hr
  split at hr
  · rename_i a t
    rw [Bool.and_eq_true] at hr
    exact ⟨a, t, rfl, of_decide_eq_true hr.1, of_decide_eq_true hr.2⟩
  · cases hr
theorem cat_le {b n0 : Nat} : ∀ r : List AV, r.all a_cat = true → ((r.map (c_v b n0)).map fun v => v.category).sum ≤ r.length
  | [], _ => by simp
  | v :: r, h => by
    rw [List.all_cons, Bool.and_eq_true] at h
    rw [List.map_cons, List.map_cons, List.sum_cons, List.length_cons, c_v_cat h.1]
    have := cat_le (b := b) (n0 := n0) r h.2
    omega
theorem rest_s {b n0 M pc : Nat} {r : List AV} (h : a_rest M pc r = true) : ((r.map (c_v b n0)).map fun v => v.category).sum ≤ 8 ∨ (M = 172 ∧ pc = 171 ∧ ((r.map (c_v b n0)).map fun v => v.category).sum ≤ 10) := by
  unfold a_rest at h
  rw [Bool.or_eq_true, Bool.and_eq_true, Bool.or_eq_true, Bool.and_eq_true] at h
  rcases h with h | ⟨h1, h | ⟨h, h2⟩⟩
  · exact Or.inl (cat_sum (of_decide_eq_true h))
  · have := cat_le (b := b) (n0 := n0) r h1
    have := of_decide_eq_true h
    exact Or.inl (by omega)
  · have := cat_le (b := b) (n0 := n0) r h1
    have h3 := of_decide_eq_true h
    have := of_decide_eq_true h2
    exact Or.inr ⟨h3.1, h3.2, by omega⟩
/-- the one wide call: from findMerge -/
def ok_wide (M : Nat) : Bool := match a_code M 168 with
  | some E => decide (E.2.1.head? ≠ some 172) || decide (M = 183)
  | none => true
theorem wide_1 : (List.range 235).all ok_wide = true := by decide +kernel
theorem wide_s {M : Nat} {E : Ent} {tl : List Nat} (hM : M < 231 ∨ M = 234) (hE : a_code M 168 = some E) (ha : E.2.1 = 172 :: tl) : M = 183 := by
  have h := List.all_eq_true.mp wide_1 M (List.mem_range.mpr (by omega))
  unfold ok_wide at h
  rw [hE] at h
  dsimp only at h
  rw [Bool.or_eq_true] at h
  rcases h with h | h
  · exact absurd (by rw [ha]; rfl) (of_decide_eq_true h)
  · exact of_decide_eq_true h
theorem code168 : a_code 183 168 = some (.invokevirtual 230, [172, 1424, 0, 1426, 95, 140], [], 0) := by decide +kernel
/-- a call over at most sixteen words -/
theorem runV16 {y : MethodName} {bytes cc : ByteArray} {maxL nL mc ms n index : Nat} {ret : Option FieldType} {ws : List Jvm.Cond} {rm : Room} {Pc : Array Value → State → Prop} {Qc : Array Value → State → Outcome → State → Prop} {free : Addr → Prop} {Ts : List Jvm.Cond} {own C : String} {b : Addr} {As rest : List Value} {g : JFrame} {cells slots : Nat}
    (S : CallFix p m c cc nL s args Ts own) (hM : Met l y ws rm Pc Qc mc ms free) (cw : CallW R s args own C index y bytes maxL ret ws rm mc ms n) (h16 : 16 + (maxL + 11) + rm.locals ≤ R.locals) (hp : PreV s H C b Pc As)
    (hg : g.method = m) (hn : As.length = n) (hsize : g.locals.size = nL) (hstack : g.stack = As.reverse ++ .ref b :: rest) (hW : 2 * g.monitorRoom + (rest.map fun v => v.category).sum ≤ 16) (hdg : decode cc g.pc = .ok (.invokevirtual index, 3)) (hf : cells + mc ≤ R.cells ∧ slots + ms ≤ R.slots) :
    va_Run p l e R s m args below meth c H locs cells slots mc ms g rest (Qc (Value.ref b :: As).toArray) (free) := by
  obtain ⟨⟨hrc, hrs, hfr, -, hws, hcw, hcode, hini, hy, hlen, hl⟩, hin, hse⟩ := cw
  have hK : Back l R p e below s args y 3 16 (PreOf R mc ms Pc) (PostOf Qc mc ms free) := back_of (bytes := bytes) (maxL := maxL) (ret := ret) hM hp.1 hrc hrs hfr h16 hws hcw (fun a' U hW => word_at hW (Or.inl (by first | rfl | simp [Cond.onTables, Cond.keeps, Cond.steady])) hini)
  obtain ⟨hx, hb, hml, ho, -⟩ := S
  obtain ⟨-, ⟨cellB, hcB, hoB, hclB⟩, hPc⟩ := hp
  intro T hT X
  obtain ⟨v, vm₁, ⟨U', l2, c2, s2⟩, hW₁, X', ⟨g', mk, t, L, e1, e2, hq, h1, hL, h2, h3⟩, st⟩ := callV X hx (C := C) (bytes := bytes) (maxL := maxL) (ret := ret) ho hl hin hse hcode hy hK (by rw [hT]; exact hcB) hoB hclB hg (hsize.trans hml.symm) (argsL := As) (rest := rest) (fun sig h => hn.trans (hlen sig h)) hstack hW (by rw [hb]; exact hdg)
    (fun vm₁ hW₁ => ⟨hf.1, hf.2, hPc (T.setVm vm₁) hT hW₁⟩)
  dsimp only [Pt.U, Pt.locs, Pt.cells, Pt.slots] at X' e1 e2 h1 h2 h3 st
  subst h1; subst h2; subst h3
  exact ⟨v, (T.setVm vm₁).calling g' mk (Value.ref b :: As).toArray, t, U', L, hT, X', hL, e1, e2, hq, st⟩
theorem lv_room16 {pc : Nat} {ls : Array Slot} {rest st : List Value} {k : Nat} (h : (st.map fun v => v.category).sum ≤ k) : 2 * (F0 m pc ls rest).monitorRoom + (st.map fun v => v.category).sum ≤ k := by
  have := lv_room (m := m) (pc := pc) (ls := ls) (rest := rest) (st := []) (by simp)
  have h0 : (F0 m pc ls rest).monitorRoom = 0 := rfl
  omega
set_option maxHeartbeats 1000000 in
theorem snd_call {b n0 l0 z0 : Nat} {D : va_G} {cA : Nat → ClassId} {M : Nat} (hC : Cx b n0 l0 D cA p R s m args meth c M)
    {E : Ent} {pc : Nat} {lo : LO} {st : List AV} {h : Hp} {M2 : Nat} {as : List AV} {vd : Bool} {pc' : Nat} {lo' : LO} {st' : List AV} {h1 : Hp} (hMM : M < 231 ∨ M = 234) (hE : a_code M pc = some E) (hok : ok_row M (pc, E) = true) (hs : a_step a_mi E pc lo st h = r_call M2 as vd pc' lo' st' h1) {ls : Array Slot} (hF : Fw b n0 l0 z0 D cA s h H locs) (hl : Lv b n0 ls (a_mL M) lo)
    {r2 : AV} {h2 : Hp} (hM : MetS b n0 D cA l M2 as h r2 h2) (hkp : Kp h h2) (hR1 : h2.1.length - l0 ≤ R.cells) (hR2 : sz h2.1 - z0 ≤ R.slots)
    (kk : ∀ (H' : Heap) (locs' : List Loc), Fw b n0 l0 z0 D cA s h2 H' locs' → W p l e R s m args below meth c H' locs' (h2.1.length - l0) (sz h2.1 - z0) Q (F0 m (pc + 3) ls ((if vd then st' else r2 :: st').map (c_v b n0)))) :
    W p l e R s m args below meth c H locs (h.1.length - l0) (sz h.1 - z0) Q (F0 m pc ls (st.map (c_v b n0))) := by
  obtain ⟨hx, hb, hml, hown, hts, hNB, hK, hret, hlk, hnm, hfr, hlc, hbn, hsz, hl0, hq0⟩ := hC
  obtain ⟨hP, hS0, hOK, hg1, hg2, L0, hk0, hL0, hX⟩ := id hF
  obtain ⟨hdec, hlnk⟩ := ok_row_s hok
  obtain ⟨c1, c2, c3, c4, c5, c6, c7, c8, ⟨tl, c9⟩, c10⟩ := a_step_call hs
  subst c1; subst c2; subst c3; subst c4
  obtain ⟨m1, m2, m3, m4, m5, m6, m7, m8, m9⟩ := ok_m_s c8
  obtain ⟨x, hx2⟩ := hkp.2.1
  have gl : h1.1.length ≤ h2.1.length := by rw [hx2, List.length_append]; omega
  have gz : sz h1.1 ≤ sz h2.1 := by rw [hx2]; unfold sz; rw [List.map_append, List.sum_append]; omega
  have hX' : ∀ j, h2.2.1 0 j = h1.2.1 0 j := hkp.2.2
  refine W_size (fun hzU => ?_)
  have hlow : n0 + (h1.1.length - 1) ≤ H.size := by
    rcases Nat.lt_or_ge 1 h1.1.length with q | q
    · have g := c_ws_get b n0 cA h1 (k := h1.1.length - 1) (by omega) (by omega)
      have := (hP _ _ g).lt
      have e1 : c_g b n0 (h1.1.length - 1) = n0 + (h1.1.length - 1 - 1) := by unfold c_g; rw [if_neg (by omega)]
      have this : c_g b n0 (h1.1.length - 1) < H.size := this
      omega
    · have := hS0.1
      omega
  have hHs : H.size = n0 + (h1.1.length - 1) := by omega
  have hpre : ∀ U : State, U.heap = H → s.WarmedH U.vm → va_Pc (as.map (c_v b n0)) (WB b n0 D cA h1) (as.map (c_v b n0)).toArray U := fun U hU hW => by
    refine ⟨rfl, by rw [hU]; exact hP, va_K.moved hW.alike hK, NB.warm hW hNB, by rw [hU]; exact hHs, L0, hk0, hL0, ?_⟩
    rw [hU]
    exact (va_X.moved hW.alike hX).kept (hS0.2.1 b (by omega) (by omega))
  have hgo : ∀ {st0 : List Value} {a : Array Value}, va_Run p l e R s m args below meth c H locs (h1.1.length - l0) (sz h1.1 - z0) (h2.1.length - h1.1.length) (sz h2.1 - sz h1.1) (F0 m pc ls st0) (st'.map (c_v b n0)) (QM b n0 D cA M2 r2 h2 a) (fun q => n0 ≤ q) → W p l e R s m args below meth c H locs (h1.1.length - l0) (sz h1.1 - z0) Q (F0 m pc ls st0) := by
    intro st0 a hr
    refine W_call hr hS0 (fun H1 locs1 hP1 hS1 => ?_)
    refine W.cs (show _ = h2.1.length - l0 by omega) (show _ = sz h2.1 - z0 by omega) ?_
    have k1 := kk H1 locs1 ⟨hP1, hS1, hkp.1, by omega, by omega, L0, by rw [hx2, List.getElem?_append_left (by have := kd_lt hk0; omega)]; exact hk0, hL0, by
      rw [show (fun j : Nat => Int32.ofInt (h2.2.1 0 j)) = (fun j : Nat => Int32.ofInt (h1.2.1 0 j)) from funext fun j => by rw [hX']]
      exact hX⟩
    unfold c_rv
    by_cases hv : (a_mi M2).2.1 = true
    · rw [if_pos hv] at k1 ⊢
      exact k1
    · rw [if_neg hv] at k1 ⊢
      exact k1
  have hf : h1.1.length - l0 + (h2.1.length - h1.1.length) ≤ R.cells ∧ sz h1.1 - z0 + (sz h2.1 - sz h1.1) ≤ R.slots := ⟨by omega, by omega⟩
  have hfix : CallFix p m c (a_cc M) (a_mL M) s args gw (a_y M).cls := ⟨hx, hb, hml, hown, hts⟩
  have hroom : ok_room M M2 = true → (a_rm M2 (h2.1.length - h1.1.length) (sz h2.1 - sz h1.1)).frames + 1 ≤ R.frames ∧ 8 + (a_mL M2 + 11) + (a_rm M2 (h2.1.length - h1.1.length) (sz h2.1 - sz h1.1)).locals ≤ R.locals := fun hr => by
    have := ok_room_s hr
    exact ⟨by show a_fr M2 + 1 ≤ _; omega, by show 8 + (a_mL M2 + 11) + a_lc M2 ≤ _; omega⟩
  have hst : st.map (c_v b n0) = (as.map (c_v b n0)).reverse ++ st'.map (c_v b n0) := by rw [c5, List.map_append, List.map_reverse]
  obtain ⟨i, an, ks, val⟩ := E
  have c9 : an = M2 :: tl := c9
  subst c9
  rcases rest_s (b := b) (n0 := n0) c7 with c7 | ⟨w1, w2, c7⟩
  case inr =>
    have w2 : pc = 168 := by omega
    subst w1; subst w2
    obtain rfl := wide_s hMM hE rfl
    rcases c10 with ⟨⟨ix, hi⟩, hrc⟩ | ⟨⟨ix, hi⟩, n1, n2, n3⟩ | ⟨⟨ix, hi⟩, n1, hrc⟩
    · have hi : i = .invokevirtual ix := hi
      subst hi
      simp only [ok_link] at hlnk
      split at hlnk
      · rename_i M3 w ns wi ws wn he2
        cases he2
        simp only [Bool.and_eq_true] at hlnk
        obtain ⟨⟨⟨⟨⟨⟨k1, k2⟩, k3⟩, k4⟩, k5⟩, k6⟩, k7⟩ := hlnk
        obtain ⟨p1, q, p2, p3⟩ := ok_cls_s k7
        obtain ⟨a, t, p4, p5, p6⟩ := a_recv_s hrc
        subst p4
        rw [if_neg (by omega)] at m5 m6
        have hn : (t.map (c_v b n0)).length = (a_mi 172).1 - 1 := by rw [List.length_map]; simp at c6; omega
        have hrecv := va_recv hK hP p2 (show (c_ws b n0 cA h1)[a - 1]? = some (c_g b n0 a, .inr ((a_mi 172).2.2 - 1, _)) by rw [c_ws_get b n0 cA h1 p6 (kd_lt p5), c_e_obj p5])
        rw [p3] at hrecv
        have hstk : (F0 m 168 ls (st.map (c_v b n0))).stack = (t.map (c_v b n0)).reverse ++ .ref (c_g b n0 a) :: st'.map (c_v b n0) := by
          show st.map (c_v b n0) = _
          rw [hst, List.map_cons, List.reverse_cons, List.append_assoc]; rfl
        have hE2 := hE
        rw [code168] at hE2
        cases hE2
        have g := w_ok_in (show w_ok 1424 (.methodLink (a_y 183).cls 230 (a_y 172)) = true from k2)
        have h49 : 16 + (2 + 11) + 20 ≤ R.locals := by
          have : 49 ≤ a_lc 183 := by decide
          omega
        exact hgo (runV16 hfix hM ⟨callB_of ((a_mi 172).1 - 1) hts (a_ws_good c8) rfl rfl rfl (hts _ (w_ok_in k5)) (hts _ g) ⟨m3, m4, m5⟩ (hroom k6), hts _ (w_ok_in k3), hts _ (w_ok_in k4)⟩ h49 ⟨WB.blind _ _ _ _ _ _, hrecv, hpre⟩ rfl hn hl.1 hstk (lv_room16 (by omega)) (ok_dec_n hdec rfl) hf)
      · cases hlnk
    · have hi : i = .invokestatic ix := hi
      subst hi
      simp only [ok_link] at hlnk
      split at hlnk
      · rename_i M3 w ns wt wn he2
        cases he2
        rw [if_neg n1, if_neg n2, if_neg n3] at hlnk
        simp only [Bool.and_eq_true] at hlnk
        have := of_decide_eq_true hlnk.2
        exact absurd this (by decide)
      · cases hlnk
    · have hi : i = .invokespecial ix := hi
      subst hi
      simp only [ok_link] at hlnk
      split at hlnk
      · rename_i M3 w wi wc he2
        cases he2
        simp only [Bool.and_eq_true] at hlnk
        exact absurd (Option.some.inj (of_decide_eq_true hlnk.2)) (by decide)
      · rename_i M3 w ns wi wn he2
        cases he2
        simp only [Bool.and_eq_true] at hlnk
        exact absurd (of_decide_eq_true hlnk.2) (by decide)
      · cases hlnk
  have hrm : 2 * (F0 m pc ls (st.map (c_v b n0))).monitorRoom + ((st'.map (c_v b n0)).map fun v => v.category).sum ≤ 8 := lv_room c7
  rcases c10 with ⟨⟨ix, hi⟩, hrc⟩ | ⟨⟨ix, hi⟩, n1, n2, n3⟩ | ⟨⟨ix, hi⟩, n1, hrc⟩
  · have hi : i = .invokevirtual ix := hi
    subst hi
    simp only [ok_link] at hlnk
    split at hlnk
    · rename_i M3 w ns wi ws wn he2
      cases he2
      simp only [Bool.and_eq_true] at hlnk
      obtain ⟨⟨⟨⟨⟨⟨k1, k2⟩, k3⟩, k4⟩, k5⟩, k6⟩, k7⟩ := hlnk
      obtain ⟨p1, q, p2, p3⟩ := ok_cls_s k7
      obtain ⟨a, t, p4, p5, p6⟩ := a_recv_s hrc
      subst p4
      rw [if_neg (by omega)] at m5 m6
      have hn : (t.map (c_v b n0)).length = (a_mi M2).1 - 1 := by rw [List.length_map]; simp at c6; omega
      have hrecv := va_recv hK hP p2 (show (c_ws b n0 cA h1)[a - 1]? = some (c_g b n0 a, .inr ((a_mi M2).2.2 - 1, _)) by rw [c_ws_get b n0 cA h1 p6 (kd_lt p5), c_e_obj p5])
      rw [p3] at hrecv
      have hstk : (F0 m pc ls (st.map (c_v b n0))).stack = (t.map (c_v b n0)).reverse ++ .ref (c_g b n0 a) :: st'.map (c_v b n0) := by
        show st.map (c_v b n0) = _
        rw [hst, List.map_cons, List.reverse_cons, List.append_assoc]; rfl
      rcases ok_lnk_s k2 with g | g
      · exact hgo (va_runV hfix hM ⟨callB_of ((a_mi M2).1 - 1) hts (a_ws_good c8) rfl rfl rfl (hts _ (w_ok_in k5)) (hts _ g) ⟨m3, m4, m5⟩ (hroom k6), hts _ (w_ok_in k3), hts _ (w_ok_in k4)⟩ ⟨WB.blind _ _ _ _ _ _, hrecv, hpre⟩ rfl hn hl.1 hstk hrm (ok_dec_n hdec rfl) hf)
      · exact hgo (va_runVN hfix hM ⟨va_cnB ((a_mi M2).1 - 1) hts (a_ws_good c8) rfl rfl rfl (hNB.1 _ g rfl) (hts _ (w_ok_in k5)) ⟨m3, m4, m5⟩ (hroom k6), hts _ (w_ok_in k3), hts _ (w_ok_in k4)⟩ ⟨WB.blind _ _ _ _ _ _, hrecv, hpre⟩ rfl hn hl.1 hstk hrm (ok_dec_n hdec rfl) hf)
    · cases hlnk
  · have hi : i = .invokestatic ix := hi
    subst hi
    simp only [ok_link] at hlnk
    split at hlnk
    · rename_i M3 w ns wt wn he2
      cases he2
      rw [if_neg n1, if_neg n2, if_neg n3] at hlnk
      simp only [Bool.and_eq_true] at hlnk
      obtain ⟨⟨⟨⟨⟨k1, k2⟩, k3⟩, k4⟩, k5⟩, k6⟩ := hlnk
      have k6 : (a_mi M2).2.2 = 0 := of_decide_eq_true k6
      rw [if_pos k6] at m5
      have hn : (as.map (c_v b n0)).length = (a_mi M2).1 - 0 := by rw [List.length_map, c6]; rfl
      rcases ok_lnk_s k2 with g | g
      · exact hgo (va_runS hfix hM ⟨callB_of ((a_mi M2).1 - 0) hts (a_ws_good c8) rfl rfl rfl (hts _ (w_ok_in k4)) (hts _ g) ⟨m3, m4, m5⟩ (hroom k5), hts _ (w_ok_in k3)⟩ ⟨WB.blind _ _ _ _ _ _, hpre⟩ rfl hn hl.1 hst hrm (ok_dec_n hdec rfl) hf)
      · exact hgo (va_runSN hfix hM ⟨va_cnB ((a_mi M2).1 - 0) hts (a_ws_good c8) rfl rfl rfl (hNB.1 _ g rfl) (hts _ (w_ok_in k4)) ⟨m3, m4, m5⟩ (hroom k5), hts _ (w_ok_in k3), trivial⟩ ⟨WB.blind _ _ _ _ _ _, hpre⟩ rfl hn hl.1 hst hrm (ok_dec_n hdec rfl) hf)
    · cases hlnk
  · have hi : i = .invokespecial ix := hi
    subst hi
    simp only [ok_link] at hlnk
    split at hlnk
    · rename_i M3 w wi wc he2
      cases he2
      simp only [Bool.and_eq_true] at hlnk
      have := of_decide_eq_true hlnk.2
      exact absurd (Option.some.inj this) n1
    · rename_i M3 w ns wi wn he2
      cases he2
      simp only [Bool.and_eq_true] at hlnk
      obtain ⟨⟨⟨⟨⟨⟨⟨k1, k2⟩, k3⟩, k4⟩, k5⟩, k6⟩, k7⟩, k8⟩ := hlnk
      have k7 : (a_y M2).name = "<init>" := of_decide_eq_true k7
      have k8 : a_rt M2 = none := of_decide_eq_true k8
      obtain ⟨p1, q, p2, p3⟩ := ok_cls_s k6
      obtain ⟨a, t, p4, p5, p6⟩ := a_recv_s hrc
      subst p4
      rw [if_neg (by omega)] at m5 m6
      have hn : (t.map (c_v b n0)).length = (a_mi M2).1 - 1 := by rw [List.length_map]; simp at c6; omega
      have hstk : (F0 m pc ls (st.map (c_v b n0))).stack = (t.map (c_v b n0)).reverse ++ .ref (c_g b n0 a) :: st'.map (c_v b n0) := by
        show st.map (c_v b n0) = _
        rw [hst, List.map_cons, List.reverse_cons, List.append_assoc]; rfl
      have hw : a_ws M2 = Jvm.Cond.code (a_y M2) (a_cc M2) (a_mL M2) none :: gw := by unfold a_ws; rw [k8]
      rcases ok_lnk_s k2 with g | g
      · exact hgo (va_runI hfix hM ⟨callB_of ((a_mi M2).1 - 1) hts (a_ws_good c8) hw rfl rfl (hts _ (w_ok_in k4)) (hts _ g) ⟨m3, m4, m5⟩ (hroom k5), k7, hts _ (w_ok_in k3)⟩ ⟨WB.blind _ _ _ _ _ _, hpre⟩ rfl hn hl.1 hstk hrm (ok_dec_n hdec rfl) hf)
      · exact hgo (va_runIN hfix hM ⟨va_cnB ((a_mi M2).1 - 1) hts (a_ws_good c8) hw rfl rfl (hNB.1 _ g rfl) (hts _ (w_ok_in k4)) ⟨m3, m4, m5⟩ (hroom k5), k7, hts _ (w_ok_in k3)⟩ ⟨WB.blind _ _ _ _ _ _, hpre⟩ rfl hn hl.1 hstk hrm (ok_dec_n hdec rfl) hf)
    · cases hlnk
end CR
/-- a frame: all that is left of it -/
theorem snd_frame (b n0 : Nat) (D : va_G) (cA : Nat → ClassId) (l : Launch) : ∀ (n : Nat), (∀ k, k < n → ∀ (M : Nat) (as : List AV) (h : Hp) (r : AV) (h' : Hp) (L : Nat), M < 231 → a_run P0 k M 0 (a_ent (a_mL M) as) [] h = some (r, h') → (a_sl as).length ≤ a_mL M → HpOK h → SOK as → h.1[0]? = some (0, L) → L ≤ 100000 → MetS b n0 D cA l M as h r h') →
    ∀ (l0 z0 : Nat) (p : Program) (e : Env) (R : Room) (s : State) (m : MethodId) (args : Array Value) (below : List Frame) (meth : Method) (c : Code) (Q : State → Prop) (M : Nat), Cx b n0 l0 D cA p R s m args meth c M → (M < 231 ∨ M = 234) → ∀ (r : AV) (h' : Hp), h'.1.length - l0 ≤ R.cells → sz h'.1 - z0 ≤ R.slots →
    (∀ (H : Heap) (locs : List Loc) (E : Ent) (pc : Nat) (lo : LO) (st : List AV) (ls : Array Slot), ok_row M (pc, E) = true → a_step a_mi E pc lo st h' = r_ret r h' → Fw b n0 l0 z0 D cA s h' H locs → SOK st → W p l e R s m args below meth c H locs (h'.1.length - l0) (sz h'.1 - z0) Q (F0 m pc ls (st.map (c_v b n0)))) →
    ∀ (pc : Nat) (lo : LO) (st : List AV) (h : Hp) (H : Heap) (locs : List Loc) (ls : Array Slot), a_run P0 n M pc lo st h = some (r, h') → Fw b n0 l0 z0 D cA s h H locs → Lv b n0 ls (a_mL M) lo → SOK st → LOK lo → W p l e R s m args below meth c H locs (h.1.length - l0) (sz h.1 - z0) Q (F0 m pc ls (st.map (c_v b n0))) := by
  intro n
  induction n with
  | zero => intro _ l0 z0 p e R s m args below meth c Q M _ _ r h' _ _ _ pc lo st h H locs ls hr; simp [a_run] at hr
  | succ n ih =>
    intro hcall l0 z0 p e R s m args below meth c Q M hC hMM r h' hR1 hR2 hret pc lo st h H locs ls hr hF hl hS hL
    have ih := ih (fun k hk => hcall k (Nat.lt_succ_of_lt hk)) l0 z0 p e R s m args below meth c Q M hC hMM r h' hR1 hR2 hret
    have hOK := hF.2.2.1
    rw [a_run] at hr
    cases hE : P0.1 M pc with
    | none => rw [hE] at hr; simp at hr
    | some E =>
      rw [hE] at hr
      dsimp only at hr
      have hok := ok_fetch hMM hE
      have hl1 := Lv.kill E.2.2.1 hl
      have hL1 := LOK.kill E.2.2.1 hL
      cases hs : a_step P0.2.1 E pc (a_kill E.2.2.1 lo) st h with
      | none => rw [hs] at hr; simp at hr
      | some x =>
        rw [hs] at hr
        rcases x with r' | g | k
        · cases hr
          have e1 := (a_step_ret hs hS).1
          subst e1
          exact hret H locs E pc _ st ls hok hs hF hS
        · obtain ⟨pc1, l1, st1, h1⟩ := g
          obtain ⟨k1, k2, k3⟩ := a_step_go hs hOK hS hL1
          have k4 := (a_run_ok P0 _ _ _ _ _ _ _ _ hr k3.1 k1 k2).2
          obtain ⟨x4, hx4⟩ := k4.2.1
          have hx4 : h'.1 = h1.1 ++ x4 := hx4
          have gl : h1.1.length ≤ h'.1.length := by rw [hx4, List.length_append]; omega
          have gz : sz h1.1 ≤ sz h'.1 := by rw [hx4]; unfold sz; rw [List.map_append, List.sum_append]; omega
          obtain ⟨i, an, ks, val⟩ := E
          exact snd_go i b n0 l0 z0 D cA p l e R s m args below meth c Q M hC an ks val pc _ st h pc1 l1 st1 h1 hok hs H locs ls hF hl1 hS hL1 (by omega) (by omega) (fun H' locs' ls' hF' hl' => ih pc1 l1 st1 h1 H' locs' ls' hr hF' hl' k1 k2)
        · obtain ⟨M2, as, vd, pc1, l1, st1, h1⟩ := k
          obtain ⟨e1, e2, e3, -, e5, e6, e7, e8, -⟩ := a_step_call hs
          subst e1; subst e2; subst e3
          dsimp only at hr
          by_cases hf : (a_sl as).length ≤ P0.2.2 M2
          case neg => rw [if_neg hf] at hr; cases hr
          rw [if_pos hf] at hr
          cases hc : a_run P0 n M2 0 (a_ent (P0.2.2 M2) as) [] h1 with
          | none => rw [hc] at hr; simp at hr
          | some q =>
            rw [hc] at hr
            obtain ⟨r2, h2⟩ := q
            have hSa : SOK as := fun v hv => hS v (by rw [e5]; exact List.mem_append_left _ (List.mem_reverse.mpr hv))
            have hSr : SOK st1 := fun v hv => hS v (by rw [e5]; exact List.mem_append_right _ hv)
            obtain ⟨k1, k2⟩ := a_run_ok P0 _ _ _ _ _ _ _ _ hc hOK (fun v hv => by cases hv) (a_ent_ok hSa)
            have hSn : SOK (if vd then st1 else r2 :: st1) := by
              split
              · exact hSr
              · exact SOK.cs k1 hSr
            have k4 := (a_run_ok P0 _ _ _ _ _ _ _ _ hr k2.1 hSn hL1).2
            obtain ⟨x4, hx4⟩ := k4.2.1
            have hx4 : h'.1 = h2.1 ++ x4 := hx4
            have gl : h2.1.length ≤ h'.1.length := by rw [hx4, List.length_append]; omega
            have gz : sz h2.1 ≤ sz h'.1 := by rw [hx4]; unfold sz; rw [List.map_append, List.sum_append]; omega
            obtain ⟨-, -, -, -, -, L0, hk0, hL0, -⟩ := id hF
            have hM := hcall n (Nat.lt_succ_self n) M2 as h1 r2 h2 L0 e8 hc hf hOK hSa hk0 hL0
            exact snd_call hC hMM hE hok hs hF hl1 hM k2 (by omega) (by omega) (fun H' locs' hF' => ih _ _ _ _ _ _ _ hr hF' hl1 hSn hL1)
def a_s1 (v : AV) : LO := match v with
  | Sum.inr (Sum.inl x) => [some (vl x), none]
  | v => [some v]
theorem a_sl_cons (a : AV) (as : List AV) : a_sl (a :: as) = a_s1 a ++ a_sl as := by
  unfold a_sl
  rw [List.flatMap_cons]
  rcases a with x | x | x <;> rfl
theorem ent_args {b n0 : Nat} : ∀ (as : List AV) (i j : Nat) (v : AV), (a_sl as)[j]? = some (some v) → (i + j, c_v b n0 v) ∈ lv_args i (as.map (c_v b n0))
  | [], _, _, _, h => by simp [a_sl] at h
  | a :: as, i, j, v, h => by
    rw [a_sl_cons] at h
    show _ ∈ (i, c_v b n0 a) :: lv_args (if (c_v b n0 a).category = 2 then i + 2 else i + 1) (as.map (c_v b n0))
    rcases a with x | x | x
    · have hc : (c_v b n0 (Sum.inl x)).category = 1 := c_v_cat rfl
      rw [if_neg (by rw [hc]; decide)]
      have h : (some (_ : AV) :: a_sl as)[j]? = some (some v) := h
      cases j with
      | zero => simp at h; subst h; exact List.mem_cons_self
      | succ j =>
        have h : (a_sl as)[j]? = some (some v) := by simpa using h
        have := ent_args (b := b) (n0 := n0) as (i + 1) j v h
        rw [show i + 1 + j = i + (j + 1) by omega] at this
        exact List.mem_cons_of_mem _ this
    · have hc : (c_v b n0 (Sum.inr (Sum.inl x))).category = 2 := rfl
      rw [if_pos hc]
      have h : (some (vl x) :: none :: a_sl as)[j]? = some (some v) := h
      match j, h with
      | 0, h => simp at h; subst h; exact List.mem_cons_self
      | 1, h => simp at h
      | j + 2, h =>
        have h : (a_sl as)[j]? = some (some v) := by simpa using h
        have := ent_args (b := b) (n0 := n0) as (i + 2) j v h
        rw [show i + 2 + j = i + (j + 2) by omega] at this
        exact List.mem_cons_of_mem _ this
    · have hc : (c_v b n0 (Sum.inr (Sum.inr x))).category = 1 := c_v_cat rfl
      rw [if_neg (by rw [hc]; decide)]
      have h : (some (_ : AV) :: a_sl as)[j]? = some (some v) := h
      cases j with
      | zero => simp at h; subst h; exact List.mem_cons_self
      | succ j =>
        have h : (a_sl as)[j]? = some (some v) := by simpa using h
        have := ent_args (b := b) (n0 := n0) as (i + 1) j v h
        rw [show i + 1 + j = i + (j + 1) by omega] at this
        exact List.mem_cons_of_mem _ this
theorem sl_len {b n0 : Nat} (as : List AV) : (lg_sl (as.map (c_v b n0))).length = (a_sl as).length := by
  induction as with
  | nil => rfl
  | cons a as ih =>
    unfold lg_sl a_sl at ih ⊢
    rw [List.map_cons, List.flatMap_cons, List.flatMap_cons, List.length_append, List.length_append, ih]
    rcases a with x | x | x
    · rfl
    · rfl
    · cases x <;> rfl
theorem ent_Lv {b n0 mL : Nat} {as : List AV} (h : (a_sl as).length ≤ mL) : Lv b n0 ((lg_sl (as.map (c_v b n0)) ++ List.replicate (mL - (lg_sl (as.map (c_v b n0))).length) Slot.unset).toArray) mL (a_ent mL as) := by
  have hl := lv_entry (as.map (c_v b n0)) (n := mL) (by rw [sl_len]; exact h)
  refine ⟨hl.1, hl.2.1, by unfold a_ent; rw [List.length_append, List.length_replicate]; omega, fun i v hv => ?_⟩
  unfold a_ent at hv
  by_cases hi : i < (a_sl as).length
  · rw [List.getElem?_append_left hi] at hv
    have := ent_args (b := b) (n0 := n0) as 0 i v hv
    rw [Nat.zero_add] at this
    exact hl.2.2 _ this
  · rw [List.getElem?_append_right (by omega), List.getElem?_replicate] at hv
    split at hv <;> cases hv
/-- every method -/
theorem snd_meth (b n0 : Nat) (D : va_G) (cA : Nat → ClassId) (l : Launch) (hbn : b < n0) : ∀ (n M : Nat) (as : List AV) (h : Hp) (r : AV) (h' : Hp) (L : Nat), M < 231 → a_run P0 n M 0 (a_ent (a_mL M) as) [] h = some (r, h') → (a_sl as).length ≤ a_mL M → HpOK h → SOK as → h.1[0]? = some (0, L) → L ≤ 100000 → MetS b n0 D cA l M as h r h' := by
  intro n
  induction n using Nat.strongRecOn with
  | _ n ih =>
    intro M as h r h' L hM hr hfit hOK hSa hk0 hL0
    obtain ⟨m1, m2, m3, m4, m5, m6, m7, m8, m9⟩ := ok_m_s hM
    refine Met.ofW (cc := a_cc M) (maxL := a_mL M) (ret := a_rt M) m2 rfl ?_
    intro p e s m args below meth c s₁ B hml hv
    obtain ⟨rfl, hP, hK, hN, hz, L', hk1, hL1, hX⟩ := hv
    have hts0 := atoms_spec (ws := a_ws M) B.pre
    have hts : ∀ w ∈ gw, w.before (as.map (c_v b n0)).toArray s = true := fun w hw => hts0 w (List.mem_cons_of_mem _ hw)
    have hown : s.vm.findClass (a_y M).cls = some m.cls := findClass_of_methodNamed B.named
    have hnm : meth.name = (a_y M).name := (name_of_methodNamed B.named B.method).1
    have hC : Cx b n0 h.1.length D cA p (a_rm M (h'.1.length - h.1.length) (sz h'.1 - sz h.1)) s m (as.map (c_v b n0)).toArray meth c M := ⟨B.exec, B.bytes, hml, hown, hts, hN, hK, B.returns, B.notSynchronized, hnm.trans, Nat.le_refl _, Nat.le_refl _, hbn, hz, hOK.1, m8, m9⟩
    have hF : Fw b n0 h.1.length (sz h.1) D cA s h s.heap [] := ⟨hP, va_S.rf, hOK, Nat.le_refl _, Nat.le_refl _, L', hk1, hL1, hX⟩
    rw [lg_entry_eq]
    have W0 := snd_frame b n0 D cA l n ih h.1.length (sz h.1) p e (headSpec (a_ws M) (a_rm M (h'.1.length - h.1.length) (sz h'.1 - sz h.1))).room s m (as.map (c_v b n0)).toArray below meth c (MQ below (QM b n0 D cA M r h') (as.map (c_v b n0)).toArray s (h'.1.length - h.1.length) (sz h'.1 - sz h.1) (fun q => n0 ≤ q)) M hC (Or.inl hM) r h' (Nat.le_refl _) (Nat.le_refl _)
      (fun H locs E pc lo st ls hok hs hF hS => snd_ret hC m7 hok hs hF hS) 0 (a_ent (a_mL M) as) [] h s.heap [] _ hr hF (ent_Lv hfit) (fun v hv => by cases hv) (a_ent_ok hSa)
    rw [Nat.sub_self, Nat.sub_self] at W0
    exact W0
