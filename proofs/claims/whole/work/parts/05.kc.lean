theorem kc0 : lw_tbl[a_wc 0]? = some (.code (a_y 0) (a_cc 0) (a_mL 0) (a_rt 0)) := by decide +kernel
theorem kc1 : lw_tbl[a_wc 1]? = some (.code (a_y 1) (a_cc 1) (a_mL 1) (a_rt 1)) := by decide +kernel
theorem kc2 : lw_tbl[a_wc 2]? = some (.code (a_y 2) (a_cc 2) (a_mL 2) (a_rt 2)) := by decide +kernel
theorem kc3 : lw_tbl[a_wc 3]? = some (.code (a_y 3) (a_cc 3) (a_mL 3) (a_rt 3)) := by decide +kernel
theorem kc4 : lw_tbl[a_wc 4]? = some (.code (a_y 4) (a_cc 4) (a_mL 4) (a_rt 4)) := by decide +kernel
theorem kc5 : lw_tbl[a_wc 5]? = some (.code (a_y 5) (a_cc 5) (a_mL 5) (a_rt 5)) := by decide +kernel
theorem kc6 : lw_tbl[a_wc 6]? = some (.code (a_y 6) (a_cc 6) (a_mL 6) (a_rt 6)) := by decide +kernel
theorem kc7 : lw_tbl[a_wc 7]? = some (.code (a_y 7) (a_cc 7) (a_mL 7) (a_rt 7)) := by decide +kernel
theorem kc8 : lw_tbl[a_wc 8]? = some (.code (a_y 8) (a_cc 8) (a_mL 8) (a_rt 8)) := by decide +kernel
theorem kc9 : lw_tbl[a_wc 9]? = some (.code (a_y 9) (a_cc 9) (a_mL 9) (a_rt 9)) := by decide +kernel
theorem kc10 : lw_tbl[a_wc 10]? = some (.code (a_y 10) (a_cc 10) (a_mL 10) (a_rt 10)) := by decide +kernel
theorem kc11 : lw_tbl[a_wc 11]? = some (.code (a_y 11) (a_cc 11) (a_mL 11) (a_rt 11)) := by decide +kernel
theorem kc12 : lw_tbl[a_wc 12]? = some (.code (a_y 12) (a_cc 12) (a_mL 12) (a_rt 12)) := by decide +kernel
theorem kc13 : lw_tbl[a_wc 13]? = some (.code (a_y 13) (a_cc 13) (a_mL 13) (a_rt 13)) := by decide +kernel
theorem kc14 : lw_tbl[a_wc 14]? = some (.code (a_y 14) (a_cc 14) (a_mL 14) (a_rt 14)) := by decide +kernel
theorem kc15 : lw_tbl[a_wc 15]? = some (.code (a_y 15) (a_cc 15) (a_mL 15) (a_rt 15)) := by decide +kernel
theorem kc16 : lw_tbl[a_wc 16]? = some (.code (a_y 16) (a_cc 16) (a_mL 16) (a_rt 16)) := by decide +kernel
theorem kc17 : lw_tbl[a_wc 17]? = some (.code (a_y 17) (a_cc 17) (a_mL 17) (a_rt 17)) := by decide +kernel
theorem kc18 : lw_tbl[a_wc 18]? = some (.code (a_y 18) (a_cc 18) (a_mL 18) (a_rt 18)) := by decide +kernel
theorem kc19 : lw_tbl[a_wc 19]? = some (.code (a_y 19) (a_cc 19) (a_mL 19) (a_rt 19)) := by decide +kernel
theorem kc20 : lw_tbl[a_wc 20]? = some (.code (a_y 20) (a_cc 20) (a_mL 20) (a_rt 20)) := by decide +kernel
theorem kc21 : lw_tbl[a_wc 21]? = some (.code (a_y 21) (a_cc 21) (a_mL 21) (a_rt 21)) := by decide +kernel
theorem kc22 : lw_tbl[a_wc 22]? = some (.code (a_y 22) (a_cc 22) (a_mL 22) (a_rt 22)) := by decide +kernel
theorem kc23 : lw_tbl[a_wc 23]? = some (.code (a_y 23) (a_cc 23) (a_mL 23) (a_rt 23)) := by decide +kernel
theorem kc24 : lw_tbl[a_wc 24]? = some (.code (a_y 24) (a_cc 24) (a_mL 24) (a_rt 24)) := by decide +kernel
theorem kc25 : lw_tbl[a_wc 25]? = some (.code (a_y 25) (a_cc 25) (a_mL 25) (a_rt 25)) := by decide +kernel
theorem kc26 : lw_tbl[a_wc 26]? = some (.code (a_y 26) (a_cc 26) (a_mL 26) (a_rt 26)) := by decide +kernel
theorem kc27 : lw_tbl[a_wc 27]? = some (.code (a_y 27) (a_cc 27) (a_mL 27) (a_rt 27)) := by decide +kernel
theorem kc28 : lw_tbl[a_wc 28]? = some (.code (a_y 28) (a_cc 28) (a_mL 28) (a_rt 28)) := by decide +kernel
theorem kc29 : lw_tbl[a_wc 29]? = some (.code (a_y 29) (a_cc 29) (a_mL 29) (a_rt 29)) := by decide +kernel
theorem kc30 : lw_tbl[a_wc 30]? = some (.code (a_y 30) (a_cc 30) (a_mL 30) (a_rt 30)) := by decide +kernel
theorem kc31 : lw_tbl[a_wc 31]? = some (.code (a_y 31) (a_cc 31) (a_mL 31) (a_rt 31)) := by decide +kernel
theorem kc32 : lw_tbl[a_wc 32]? = some (.code (a_y 32) (a_cc 32) (a_mL 32) (a_rt 32)) := by decide +kernel
theorem kc33 : lw_tbl[a_wc 33]? = some (.code (a_y 33) (a_cc 33) (a_mL 33) (a_rt 33)) := by decide +kernel
theorem kc34 : lw_tbl[a_wc 34]? = some (.code (a_y 34) (a_cc 34) (a_mL 34) (a_rt 34)) := by decide +kernel
theorem kc35 : lw_tbl[a_wc 35]? = some (.code (a_y 35) (a_cc 35) (a_mL 35) (a_rt 35)) := by decide +kernel
theorem kc36 : lw_tbl[a_wc 36]? = some (.code (a_y 36) (a_cc 36) (a_mL 36) (a_rt 36)) := by decide +kernel
theorem kc37 : lw_tbl[a_wc 37]? = some (.code (a_y 37) (a_cc 37) (a_mL 37) (a_rt 37)) := by decide +kernel
theorem kc38 : lw_tbl[a_wc 38]? = some (.code (a_y 38) (a_cc 38) (a_mL 38) (a_rt 38)) := by decide +kernel
theorem kc39 : lw_tbl[a_wc 39]? = some (.code (a_y 39) (a_cc 39) (a_mL 39) (a_rt 39)) := by decide +kernel
theorem kc40 : lw_tbl[a_wc 40]? = some (.code (a_y 40) (a_cc 40) (a_mL 40) (a_rt 40)) := by decide +kernel
theorem kc41 : lw_tbl[a_wc 41]? = some (.code (a_y 41) (a_cc 41) (a_mL 41) (a_rt 41)) := by decide +kernel
theorem kc42 : lw_tbl[a_wc 42]? = some (.code (a_y 42) (a_cc 42) (a_mL 42) (a_rt 42)) := by decide +kernel
theorem kc43 : lw_tbl[a_wc 43]? = some (.code (a_y 43) (a_cc 43) (a_mL 43) (a_rt 43)) := by decide +kernel
theorem kc44 : lw_tbl[a_wc 44]? = some (.code (a_y 44) (a_cc 44) (a_mL 44) (a_rt 44)) := by decide +kernel
theorem kc45 : lw_tbl[a_wc 45]? = some (.code (a_y 45) (a_cc 45) (a_mL 45) (a_rt 45)) := by decide +kernel
theorem kc46 : lw_tbl[a_wc 46]? = some (.code (a_y 46) (a_cc 46) (a_mL 46) (a_rt 46)) := by decide +kernel
theorem kc47 : lw_tbl[a_wc 47]? = some (.code (a_y 47) (a_cc 47) (a_mL 47) (a_rt 47)) := by decide +kernel
theorem kc48 : lw_tbl[a_wc 48]? = some (.code (a_y 48) (a_cc 48) (a_mL 48) (a_rt 48)) := by decide +kernel
theorem kc49 : lw_tbl[a_wc 49]? = some (.code (a_y 49) (a_cc 49) (a_mL 49) (a_rt 49)) := by decide +kernel
theorem kc50 : lw_tbl[a_wc 50]? = some (.code (a_y 50) (a_cc 50) (a_mL 50) (a_rt 50)) := by decide +kernel
theorem kc51 : lw_tbl[a_wc 51]? = some (.code (a_y 51) (a_cc 51) (a_mL 51) (a_rt 51)) := by decide +kernel
theorem kc52 : lw_tbl[a_wc 52]? = some (.code (a_y 52) (a_cc 52) (a_mL 52) (a_rt 52)) := by decide +kernel
theorem kc53 : lw_tbl[a_wc 53]? = some (.code (a_y 53) (a_cc 53) (a_mL 53) (a_rt 53)) := by decide +kernel
theorem kc54 : lw_tbl[a_wc 54]? = some (.code (a_y 54) (a_cc 54) (a_mL 54) (a_rt 54)) := by decide +kernel
theorem kc55 : lw_tbl[a_wc 55]? = some (.code (a_y 55) (a_cc 55) (a_mL 55) (a_rt 55)) := by decide +kernel
theorem kc56 : lw_tbl[a_wc 56]? = some (.code (a_y 56) (a_cc 56) (a_mL 56) (a_rt 56)) := by decide +kernel
theorem kc57 : lw_tbl[a_wc 57]? = some (.code (a_y 57) (a_cc 57) (a_mL 57) (a_rt 57)) := by decide +kernel
theorem kc58 : lw_tbl[a_wc 58]? = some (.code (a_y 58) (a_cc 58) (a_mL 58) (a_rt 58)) := by decide +kernel
theorem kc59 : lw_tbl[a_wc 59]? = some (.code (a_y 59) (a_cc 59) (a_mL 59) (a_rt 59)) := by decide +kernel
theorem kc60 : lw_tbl[a_wc 60]? = some (.code (a_y 60) (a_cc 60) (a_mL 60) (a_rt 60)) := by decide +kernel
theorem kc61 : lw_tbl[a_wc 61]? = some (.code (a_y 61) (a_cc 61) (a_mL 61) (a_rt 61)) := by decide +kernel
theorem kc62 : lw_tbl[a_wc 62]? = some (.code (a_y 62) (a_cc 62) (a_mL 62) (a_rt 62)) := by decide +kernel
theorem kc63 : lw_tbl[a_wc 63]? = some (.code (a_y 63) (a_cc 63) (a_mL 63) (a_rt 63)) := by decide +kernel
theorem kc64 : lw_tbl[a_wc 64]? = some (.code (a_y 64) (a_cc 64) (a_mL 64) (a_rt 64)) := by decide +kernel
theorem kc65 : lw_tbl[a_wc 65]? = some (.code (a_y 65) (a_cc 65) (a_mL 65) (a_rt 65)) := by decide +kernel
theorem kc66 : lw_tbl[a_wc 66]? = some (.code (a_y 66) (a_cc 66) (a_mL 66) (a_rt 66)) := by decide +kernel
theorem kc67 : lw_tbl[a_wc 67]? = some (.code (a_y 67) (a_cc 67) (a_mL 67) (a_rt 67)) := by decide +kernel
theorem kc68 : lw_tbl[a_wc 68]? = some (.code (a_y 68) (a_cc 68) (a_mL 68) (a_rt 68)) := by decide +kernel
theorem kc69 : lw_tbl[a_wc 69]? = some (.code (a_y 69) (a_cc 69) (a_mL 69) (a_rt 69)) := by decide +kernel
theorem kc70 : lw_tbl[a_wc 70]? = some (.code (a_y 70) (a_cc 70) (a_mL 70) (a_rt 70)) := by decide +kernel
theorem kc71 : lw_tbl[a_wc 71]? = some (.code (a_y 71) (a_cc 71) (a_mL 71) (a_rt 71)) := by decide +kernel
theorem kc72 : lw_tbl[a_wc 72]? = some (.code (a_y 72) (a_cc 72) (a_mL 72) (a_rt 72)) := by decide +kernel
theorem kc73 : lw_tbl[a_wc 73]? = some (.code (a_y 73) (a_cc 73) (a_mL 73) (a_rt 73)) := by decide +kernel
theorem kc74 : lw_tbl[a_wc 74]? = some (.code (a_y 74) (a_cc 74) (a_mL 74) (a_rt 74)) := by decide +kernel
theorem kc75 : lw_tbl[a_wc 75]? = some (.code (a_y 75) (a_cc 75) (a_mL 75) (a_rt 75)) := by decide +kernel
theorem kc76 : lw_tbl[a_wc 76]? = some (.code (a_y 76) (a_cc 76) (a_mL 76) (a_rt 76)) := by decide +kernel
theorem kc77 : lw_tbl[a_wc 77]? = some (.code (a_y 77) (a_cc 77) (a_mL 77) (a_rt 77)) := by decide +kernel
theorem kc78 : lw_tbl[a_wc 78]? = some (.code (a_y 78) (a_cc 78) (a_mL 78) (a_rt 78)) := by decide +kernel
theorem kc79 : lw_tbl[a_wc 79]? = some (.code (a_y 79) (a_cc 79) (a_mL 79) (a_rt 79)) := by decide +kernel
theorem kc80 : lw_tbl[a_wc 80]? = some (.code (a_y 80) (a_cc 80) (a_mL 80) (a_rt 80)) := by decide +kernel
theorem kc81 : lw_tbl[a_wc 81]? = some (.code (a_y 81) (a_cc 81) (a_mL 81) (a_rt 81)) := by decide +kernel
theorem kc82 : lw_tbl[a_wc 82]? = some (.code (a_y 82) (a_cc 82) (a_mL 82) (a_rt 82)) := by decide +kernel
theorem kc83 : lw_tbl[a_wc 83]? = some (.code (a_y 83) (a_cc 83) (a_mL 83) (a_rt 83)) := by decide +kernel
theorem kc84 : lw_tbl[a_wc 84]? = some (.code (a_y 84) (a_cc 84) (a_mL 84) (a_rt 84)) := by decide +kernel
theorem kc85 : lw_tbl[a_wc 85]? = some (.code (a_y 85) (a_cc 85) (a_mL 85) (a_rt 85)) := by decide +kernel
theorem kc86 : lw_tbl[a_wc 86]? = some (.code (a_y 86) (a_cc 86) (a_mL 86) (a_rt 86)) := by decide +kernel
theorem kc87 : lw_tbl[a_wc 87]? = some (.code (a_y 87) (a_cc 87) (a_mL 87) (a_rt 87)) := by decide +kernel
theorem kc88 : lw_tbl[a_wc 88]? = some (.code (a_y 88) (a_cc 88) (a_mL 88) (a_rt 88)) := by decide +kernel
theorem kc89 : lw_tbl[a_wc 89]? = some (.code (a_y 89) (a_cc 89) (a_mL 89) (a_rt 89)) := by decide +kernel
theorem kc90 : lw_tbl[a_wc 90]? = some (.code (a_y 90) (a_cc 90) (a_mL 90) (a_rt 90)) := by decide +kernel
theorem kc91 : lw_tbl[a_wc 91]? = some (.code (a_y 91) (a_cc 91) (a_mL 91) (a_rt 91)) := by decide +kernel
theorem kc92 : lw_tbl[a_wc 92]? = some (.code (a_y 92) (a_cc 92) (a_mL 92) (a_rt 92)) := by decide +kernel
theorem kc93 : lw_tbl[a_wc 93]? = some (.code (a_y 93) (a_cc 93) (a_mL 93) (a_rt 93)) := by decide +kernel
theorem kc94 : lw_tbl[a_wc 94]? = some (.code (a_y 94) (a_cc 94) (a_mL 94) (a_rt 94)) := by decide +kernel
theorem kc95 : lw_tbl[a_wc 95]? = some (.code (a_y 95) (a_cc 95) (a_mL 95) (a_rt 95)) := by decide +kernel
theorem kc96 : lw_tbl[a_wc 96]? = some (.code (a_y 96) (a_cc 96) (a_mL 96) (a_rt 96)) := by decide +kernel
theorem kc97 : lw_tbl[a_wc 97]? = some (.code (a_y 97) (a_cc 97) (a_mL 97) (a_rt 97)) := by decide +kernel
theorem kc98 : lw_tbl[a_wc 98]? = some (.code (a_y 98) (a_cc 98) (a_mL 98) (a_rt 98)) := by decide +kernel
theorem kc99 : lw_tbl[a_wc 99]? = some (.code (a_y 99) (a_cc 99) (a_mL 99) (a_rt 99)) := by decide +kernel
theorem kc100 : lw_tbl[a_wc 100]? = some (.code (a_y 100) (a_cc 100) (a_mL 100) (a_rt 100)) := by decide +kernel
theorem kc101 : lw_tbl[a_wc 101]? = some (.code (a_y 101) (a_cc 101) (a_mL 101) (a_rt 101)) := by decide +kernel
theorem kc102 : lw_tbl[a_wc 102]? = some (.code (a_y 102) (a_cc 102) (a_mL 102) (a_rt 102)) := by decide +kernel
theorem kc103 : lw_tbl[a_wc 103]? = some (.code (a_y 103) (a_cc 103) (a_mL 103) (a_rt 103)) := by decide +kernel
theorem kc104 : lw_tbl[a_wc 104]? = some (.code (a_y 104) (a_cc 104) (a_mL 104) (a_rt 104)) := by decide +kernel
theorem kc105 : lw_tbl[a_wc 105]? = some (.code (a_y 105) (a_cc 105) (a_mL 105) (a_rt 105)) := by decide +kernel
theorem kc106 : lw_tbl[a_wc 106]? = some (.code (a_y 106) (a_cc 106) (a_mL 106) (a_rt 106)) := by decide +kernel
theorem kc107 : lw_tbl[a_wc 107]? = some (.code (a_y 107) (a_cc 107) (a_mL 107) (a_rt 107)) := by decide +kernel
theorem kc108 : lw_tbl[a_wc 108]? = some (.code (a_y 108) (a_cc 108) (a_mL 108) (a_rt 108)) := by decide +kernel
theorem kc109 : lw_tbl[a_wc 109]? = some (.code (a_y 109) (a_cc 109) (a_mL 109) (a_rt 109)) := by decide +kernel
theorem kc110 : lw_tbl[a_wc 110]? = some (.code (a_y 110) (a_cc 110) (a_mL 110) (a_rt 110)) := by decide +kernel
theorem kc111 : lw_tbl[a_wc 111]? = some (.code (a_y 111) (a_cc 111) (a_mL 111) (a_rt 111)) := by decide +kernel
theorem kc112 : lw_tbl[a_wc 112]? = some (.code (a_y 112) (a_cc 112) (a_mL 112) (a_rt 112)) := by decide +kernel
theorem kc113 : lw_tbl[a_wc 113]? = some (.code (a_y 113) (a_cc 113) (a_mL 113) (a_rt 113)) := by decide +kernel
theorem kc114 : lw_tbl[a_wc 114]? = some (.code (a_y 114) (a_cc 114) (a_mL 114) (a_rt 114)) := by decide +kernel
theorem kc115 : lw_tbl[a_wc 115]? = some (.code (a_y 115) (a_cc 115) (a_mL 115) (a_rt 115)) := by decide +kernel
theorem kc116 : lw_tbl[a_wc 116]? = some (.code (a_y 116) (a_cc 116) (a_mL 116) (a_rt 116)) := by decide +kernel
theorem kc117 : lw_tbl[a_wc 117]? = some (.code (a_y 117) (a_cc 117) (a_mL 117) (a_rt 117)) := by decide +kernel
theorem kc118 : lw_tbl[a_wc 118]? = some (.code (a_y 118) (a_cc 118) (a_mL 118) (a_rt 118)) := by decide +kernel
theorem kc119 : lw_tbl[a_wc 119]? = some (.code (a_y 119) (a_cc 119) (a_mL 119) (a_rt 119)) := by decide +kernel
theorem kc120 : lw_tbl[a_wc 120]? = some (.code (a_y 120) (a_cc 120) (a_mL 120) (a_rt 120)) := by decide +kernel
theorem kc121 : lw_tbl[a_wc 121]? = some (.code (a_y 121) (a_cc 121) (a_mL 121) (a_rt 121)) := by decide +kernel
theorem kc122 : lw_tbl[a_wc 122]? = some (.code (a_y 122) (a_cc 122) (a_mL 122) (a_rt 122)) := by decide +kernel
theorem kc123 : lw_tbl[a_wc 123]? = some (.code (a_y 123) (a_cc 123) (a_mL 123) (a_rt 123)) := by decide +kernel
theorem kc124 : lw_tbl[a_wc 124]? = some (.code (a_y 124) (a_cc 124) (a_mL 124) (a_rt 124)) := by decide +kernel
theorem kc125 : lw_tbl[a_wc 125]? = some (.code (a_y 125) (a_cc 125) (a_mL 125) (a_rt 125)) := by decide +kernel
theorem kc126 : lw_tbl[a_wc 126]? = some (.code (a_y 126) (a_cc 126) (a_mL 126) (a_rt 126)) := by decide +kernel
theorem kc127 : lw_tbl[a_wc 127]? = some (.code (a_y 127) (a_cc 127) (a_mL 127) (a_rt 127)) := by decide +kernel
theorem kc128 : lw_tbl[a_wc 128]? = some (.code (a_y 128) (a_cc 128) (a_mL 128) (a_rt 128)) := by decide +kernel
theorem kc129 : lw_tbl[a_wc 129]? = some (.code (a_y 129) (a_cc 129) (a_mL 129) (a_rt 129)) := by decide +kernel
theorem kc130 : lw_tbl[a_wc 130]? = some (.code (a_y 130) (a_cc 130) (a_mL 130) (a_rt 130)) := by decide +kernel
theorem kc131 : lw_tbl[a_wc 131]? = some (.code (a_y 131) (a_cc 131) (a_mL 131) (a_rt 131)) := by decide +kernel
theorem kc132 : lw_tbl[a_wc 132]? = some (.code (a_y 132) (a_cc 132) (a_mL 132) (a_rt 132)) := by decide +kernel
theorem kc133 : lw_tbl[a_wc 133]? = some (.code (a_y 133) (a_cc 133) (a_mL 133) (a_rt 133)) := by decide +kernel
theorem kc134 : lw_tbl[a_wc 134]? = some (.code (a_y 134) (a_cc 134) (a_mL 134) (a_rt 134)) := by decide +kernel
theorem kc135 : lw_tbl[a_wc 135]? = some (.code (a_y 135) (a_cc 135) (a_mL 135) (a_rt 135)) := by decide +kernel
theorem kc136 : lw_tbl[a_wc 136]? = some (.code (a_y 136) (a_cc 136) (a_mL 136) (a_rt 136)) := by decide +kernel
theorem kc137 : lw_tbl[a_wc 137]? = some (.code (a_y 137) (a_cc 137) (a_mL 137) (a_rt 137)) := by decide +kernel
theorem kc138 : lw_tbl[a_wc 138]? = some (.code (a_y 138) (a_cc 138) (a_mL 138) (a_rt 138)) := by decide +kernel
theorem kc139 : lw_tbl[a_wc 139]? = some (.code (a_y 139) (a_cc 139) (a_mL 139) (a_rt 139)) := by decide +kernel
theorem kc140 : lw_tbl[a_wc 140]? = some (.code (a_y 140) (a_cc 140) (a_mL 140) (a_rt 140)) := by decide +kernel
theorem kc141 : lw_tbl[a_wc 141]? = some (.code (a_y 141) (a_cc 141) (a_mL 141) (a_rt 141)) := by decide +kernel
theorem kc142 : lw_tbl[a_wc 142]? = some (.code (a_y 142) (a_cc 142) (a_mL 142) (a_rt 142)) := by decide +kernel
theorem kc143 : lw_tbl[a_wc 143]? = some (.code (a_y 143) (a_cc 143) (a_mL 143) (a_rt 143)) := by decide +kernel
theorem kc144 : lw_tbl[a_wc 144]? = some (.code (a_y 144) (a_cc 144) (a_mL 144) (a_rt 144)) := by decide +kernel
theorem kc145 : lw_tbl[a_wc 145]? = some (.code (a_y 145) (a_cc 145) (a_mL 145) (a_rt 145)) := by decide +kernel
theorem kc146 : lw_tbl[a_wc 146]? = some (.code (a_y 146) (a_cc 146) (a_mL 146) (a_rt 146)) := by decide +kernel
theorem kc147 : lw_tbl[a_wc 147]? = some (.code (a_y 147) (a_cc 147) (a_mL 147) (a_rt 147)) := by decide +kernel
theorem kc148 : lw_tbl[a_wc 148]? = some (.code (a_y 148) (a_cc 148) (a_mL 148) (a_rt 148)) := by decide +kernel
theorem kc149 : lw_tbl[a_wc 149]? = some (.code (a_y 149) (a_cc 149) (a_mL 149) (a_rt 149)) := by decide +kernel
theorem kc150 : lw_tbl[a_wc 150]? = some (.code (a_y 150) (a_cc 150) (a_mL 150) (a_rt 150)) := by decide +kernel
theorem kc151 : lw_tbl[a_wc 151]? = some (.code (a_y 151) (a_cc 151) (a_mL 151) (a_rt 151)) := by decide +kernel
theorem kc152 : lw_tbl[a_wc 152]? = some (.code (a_y 152) (a_cc 152) (a_mL 152) (a_rt 152)) := by decide +kernel
theorem kc153 : lw_tbl[a_wc 153]? = some (.code (a_y 153) (a_cc 153) (a_mL 153) (a_rt 153)) := by decide +kernel
theorem kc154 : lw_tbl[a_wc 154]? = some (.code (a_y 154) (a_cc 154) (a_mL 154) (a_rt 154)) := by decide +kernel
theorem kc155 : lw_tbl[a_wc 155]? = some (.code (a_y 155) (a_cc 155) (a_mL 155) (a_rt 155)) := by decide +kernel
theorem kc156 : lw_tbl[a_wc 156]? = some (.code (a_y 156) (a_cc 156) (a_mL 156) (a_rt 156)) := by decide +kernel
theorem kc157 : lw_tbl[a_wc 157]? = some (.code (a_y 157) (a_cc 157) (a_mL 157) (a_rt 157)) := by decide +kernel
theorem kc158 : lw_tbl[a_wc 158]? = some (.code (a_y 158) (a_cc 158) (a_mL 158) (a_rt 158)) := by decide +kernel
theorem kc159 : lw_tbl[a_wc 159]? = some (.code (a_y 159) (a_cc 159) (a_mL 159) (a_rt 159)) := by decide +kernel
theorem kc160 : lw_tbl[a_wc 160]? = some (.code (a_y 160) (a_cc 160) (a_mL 160) (a_rt 160)) := by decide +kernel
theorem kc161 : lw_tbl[a_wc 161]? = some (.code (a_y 161) (a_cc 161) (a_mL 161) (a_rt 161)) := by decide +kernel
theorem kc162 : lw_tbl[a_wc 162]? = some (.code (a_y 162) (a_cc 162) (a_mL 162) (a_rt 162)) := by decide +kernel
theorem kc163 : lw_tbl[a_wc 163]? = some (.code (a_y 163) (a_cc 163) (a_mL 163) (a_rt 163)) := by decide +kernel
theorem kc164 : lw_tbl[a_wc 164]? = some (.code (a_y 164) (a_cc 164) (a_mL 164) (a_rt 164)) := by decide +kernel
theorem kc165 : lw_tbl[a_wc 165]? = some (.code (a_y 165) (a_cc 165) (a_mL 165) (a_rt 165)) := by decide +kernel
theorem kc166 : lw_tbl[a_wc 166]? = some (.code (a_y 166) (a_cc 166) (a_mL 166) (a_rt 166)) := by decide +kernel
theorem kc167 : lw_tbl[a_wc 167]? = some (.code (a_y 167) (a_cc 167) (a_mL 167) (a_rt 167)) := by decide +kernel
theorem kc168 : lw_tbl[a_wc 168]? = some (.code (a_y 168) (a_cc 168) (a_mL 168) (a_rt 168)) := by decide +kernel
theorem kc169 : lw_tbl[a_wc 169]? = some (.code (a_y 169) (a_cc 169) (a_mL 169) (a_rt 169)) := by decide +kernel
theorem kc170 : lw_tbl[a_wc 170]? = some (.code (a_y 170) (a_cc 170) (a_mL 170) (a_rt 170)) := by decide +kernel
theorem kc171 : lw_tbl[a_wc 171]? = some (.code (a_y 171) (a_cc 171) (a_mL 171) (a_rt 171)) := by decide +kernel
theorem kc172 : lw_tbl[a_wc 172]? = some (.code (a_y 172) (a_cc 172) (a_mL 172) (a_rt 172)) := by decide +kernel
theorem kc173 : lw_tbl[a_wc 173]? = some (.code (a_y 173) (a_cc 173) (a_mL 173) (a_rt 173)) := by decide +kernel
theorem kc174 : lw_tbl[a_wc 174]? = some (.code (a_y 174) (a_cc 174) (a_mL 174) (a_rt 174)) := by decide +kernel
theorem kc175 : lw_tbl[a_wc 175]? = some (.code (a_y 175) (a_cc 175) (a_mL 175) (a_rt 175)) := by decide +kernel
theorem kc176 : lw_tbl[a_wc 176]? = some (.code (a_y 176) (a_cc 176) (a_mL 176) (a_rt 176)) := by decide +kernel
theorem kc177 : lw_tbl[a_wc 177]? = some (.code (a_y 177) (a_cc 177) (a_mL 177) (a_rt 177)) := by decide +kernel
theorem kc178 : lw_tbl[a_wc 178]? = some (.code (a_y 178) (a_cc 178) (a_mL 178) (a_rt 178)) := by decide +kernel
theorem kc179 : lw_tbl[a_wc 179]? = some (.code (a_y 179) (a_cc 179) (a_mL 179) (a_rt 179)) := by decide +kernel
theorem kc180 : lw_tbl[a_wc 180]? = some (.code (a_y 180) (a_cc 180) (a_mL 180) (a_rt 180)) := by decide +kernel
theorem kc181 : lw_tbl[a_wc 181]? = some (.code (a_y 181) (a_cc 181) (a_mL 181) (a_rt 181)) := by decide +kernel
theorem kc182 : lw_tbl[a_wc 182]? = some (.code (a_y 182) (a_cc 182) (a_mL 182) (a_rt 182)) := by decide +kernel
theorem kc183 : lw_tbl[a_wc 183]? = some (.code (a_y 183) (a_cc 183) (a_mL 183) (a_rt 183)) := by decide +kernel
theorem kc184 : lw_tbl[a_wc 184]? = some (.code (a_y 184) (a_cc 184) (a_mL 184) (a_rt 184)) := by decide +kernel
theorem kc185 : lw_tbl[a_wc 185]? = some (.code (a_y 185) (a_cc 185) (a_mL 185) (a_rt 185)) := by decide +kernel
theorem kc186 : lw_tbl[a_wc 186]? = some (.code (a_y 186) (a_cc 186) (a_mL 186) (a_rt 186)) := by decide +kernel
theorem kc187 : lw_tbl[a_wc 187]? = some (.code (a_y 187) (a_cc 187) (a_mL 187) (a_rt 187)) := by decide +kernel
theorem kc188 : lw_tbl[a_wc 188]? = some (.code (a_y 188) (a_cc 188) (a_mL 188) (a_rt 188)) := by decide +kernel
theorem kc189 : lw_tbl[a_wc 189]? = some (.code (a_y 189) (a_cc 189) (a_mL 189) (a_rt 189)) := by decide +kernel
theorem kc190 : lw_tbl[a_wc 190]? = some (.code (a_y 190) (a_cc 190) (a_mL 190) (a_rt 190)) := by decide +kernel
theorem kc191 : lw_tbl[a_wc 191]? = some (.code (a_y 191) (a_cc 191) (a_mL 191) (a_rt 191)) := by decide +kernel
theorem kc192 : lw_tbl[a_wc 192]? = some (.code (a_y 192) (a_cc 192) (a_mL 192) (a_rt 192)) := by decide +kernel
theorem kc193 : lw_tbl[a_wc 193]? = some (.code (a_y 193) (a_cc 193) (a_mL 193) (a_rt 193)) := by decide +kernel
theorem kc194 : lw_tbl[a_wc 194]? = some (.code (a_y 194) (a_cc 194) (a_mL 194) (a_rt 194)) := by decide +kernel
theorem kc195 : lw_tbl[a_wc 195]? = some (.code (a_y 195) (a_cc 195) (a_mL 195) (a_rt 195)) := by decide +kernel
theorem kc196 : lw_tbl[a_wc 196]? = some (.code (a_y 196) (a_cc 196) (a_mL 196) (a_rt 196)) := by decide +kernel
theorem kc197 : lw_tbl[a_wc 197]? = some (.code (a_y 197) (a_cc 197) (a_mL 197) (a_rt 197)) := by decide +kernel
theorem kc198 : lw_tbl[a_wc 198]? = some (.code (a_y 198) (a_cc 198) (a_mL 198) (a_rt 198)) := by decide +kernel
theorem kc199 : lw_tbl[a_wc 199]? = some (.code (a_y 199) (a_cc 199) (a_mL 199) (a_rt 199)) := by decide +kernel
theorem kc200 : lw_tbl[a_wc 200]? = some (.code (a_y 200) (a_cc 200) (a_mL 200) (a_rt 200)) := by decide +kernel
theorem kc201 : lw_tbl[a_wc 201]? = some (.code (a_y 201) (a_cc 201) (a_mL 201) (a_rt 201)) := by decide +kernel
theorem kc202 : lw_tbl[a_wc 202]? = some (.code (a_y 202) (a_cc 202) (a_mL 202) (a_rt 202)) := by decide +kernel
theorem kc203 : lw_tbl[a_wc 203]? = some (.code (a_y 203) (a_cc 203) (a_mL 203) (a_rt 203)) := by decide +kernel
theorem kc204 : lw_tbl[a_wc 204]? = some (.code (a_y 204) (a_cc 204) (a_mL 204) (a_rt 204)) := by decide +kernel
theorem kc205 : lw_tbl[a_wc 205]? = some (.code (a_y 205) (a_cc 205) (a_mL 205) (a_rt 205)) := by decide +kernel
theorem kc206 : lw_tbl[a_wc 206]? = some (.code (a_y 206) (a_cc 206) (a_mL 206) (a_rt 206)) := by decide +kernel
theorem kc207 : lw_tbl[a_wc 207]? = some (.code (a_y 207) (a_cc 207) (a_mL 207) (a_rt 207)) := by decide +kernel
theorem kc208 : lw_tbl[a_wc 208]? = some (.code (a_y 208) (a_cc 208) (a_mL 208) (a_rt 208)) := by decide +kernel
theorem kc209 : lw_tbl[a_wc 209]? = some (.code (a_y 209) (a_cc 209) (a_mL 209) (a_rt 209)) := by decide +kernel
theorem kc210 : lw_tbl[a_wc 210]? = some (.code (a_y 210) (a_cc 210) (a_mL 210) (a_rt 210)) := by decide +kernel
theorem kc211 : lw_tbl[a_wc 211]? = some (.code (a_y 211) (a_cc 211) (a_mL 211) (a_rt 211)) := by decide +kernel
theorem kc212 : lw_tbl[a_wc 212]? = some (.code (a_y 212) (a_cc 212) (a_mL 212) (a_rt 212)) := by decide +kernel
theorem kc213 : lw_tbl[a_wc 213]? = some (.code (a_y 213) (a_cc 213) (a_mL 213) (a_rt 213)) := by decide +kernel
theorem kc214 : lw_tbl[a_wc 214]? = some (.code (a_y 214) (a_cc 214) (a_mL 214) (a_rt 214)) := by decide +kernel
theorem kc215 : lw_tbl[a_wc 215]? = some (.code (a_y 215) (a_cc 215) (a_mL 215) (a_rt 215)) := by decide +kernel
theorem kc216 : lw_tbl[a_wc 216]? = some (.code (a_y 216) (a_cc 216) (a_mL 216) (a_rt 216)) := by decide +kernel
theorem kc217 : lw_tbl[a_wc 217]? = some (.code (a_y 217) (a_cc 217) (a_mL 217) (a_rt 217)) := by decide +kernel
theorem kc218 : lw_tbl[a_wc 218]? = some (.code (a_y 218) (a_cc 218) (a_mL 218) (a_rt 218)) := by decide +kernel
theorem kc219 : lw_tbl[a_wc 219]? = some (.code (a_y 219) (a_cc 219) (a_mL 219) (a_rt 219)) := by decide +kernel
theorem kc220 : lw_tbl[a_wc 220]? = some (.code (a_y 220) (a_cc 220) (a_mL 220) (a_rt 220)) := by decide +kernel
theorem kc221 : lw_tbl[a_wc 221]? = some (.code (a_y 221) (a_cc 221) (a_mL 221) (a_rt 221)) := by decide +kernel
theorem kc222 : lw_tbl[a_wc 222]? = some (.code (a_y 222) (a_cc 222) (a_mL 222) (a_rt 222)) := by decide +kernel
theorem kc223 : lw_tbl[a_wc 223]? = some (.code (a_y 223) (a_cc 223) (a_mL 223) (a_rt 223)) := by decide +kernel
theorem kc224 : lw_tbl[a_wc 224]? = some (.code (a_y 224) (a_cc 224) (a_mL 224) (a_rt 224)) := by decide +kernel
theorem kc225 : lw_tbl[a_wc 225]? = some (.code (a_y 225) (a_cc 225) (a_mL 225) (a_rt 225)) := by decide +kernel
theorem kc226 : lw_tbl[a_wc 226]? = some (.code (a_y 226) (a_cc 226) (a_mL 226) (a_rt 226)) := by decide +kernel
theorem kc227 : lw_tbl[a_wc 227]? = some (.code (a_y 227) (a_cc 227) (a_mL 227) (a_rt 227)) := by decide +kernel
theorem kc228 : lw_tbl[a_wc 228]? = some (.code (a_y 228) (a_cc 228) (a_mL 228) (a_rt 228)) := by decide +kernel
theorem kc229 : lw_tbl[a_wc 229]? = some (.code (a_y 229) (a_cc 229) (a_mL 229) (a_rt 229)) := by decide +kernel
theorem kc230 : lw_tbl[a_wc 230]? = some (.code (a_y 230) (a_cc 230) (a_mL 230) (a_rt 230)) := by decide +kernel
def pl_f (ci k : Nat) : Nat := match ci with
  | 0 => [351, 353, 355, 357, 359, 361, 363, 365, 367, 369].getD k 0
  | 1 => [193, 195, 197, 199].getD k 0
  | 2 => [400, 402, 404, 406, 408, 410, 412, 414, 416, 418, 420, 422].getD k 0
  | 3 => [466, 468, 470, 472, 474, 476].getD k 0
  | 4 => [166, 168].getD k 0
  | 5 => [255, 257, 259].getD k 0
  | 6 => [279, 281].getD k 0
  | 7 => [307, 309, 311, 313, 315, 317, 319, 321, 323].getD k 0
  | 8 => [222, 224, 226, 228, 230, 232, 234, 236, 238, 240].getD k 0
  | 9 => [439, 441, 443, 445, 447, 449].getD k 0
  | 10 => [492, 494, 496, 498, 500, 502, 504, 506, 508, 510, 512].getD k 0
  | 11 => [1138, 1140, 1142, 1144, 1146, 1148, 1150, 1152, 1154, 1156, 1158, 1160, 1162, 1164, 1166, 1168, 1170, 1172, 1174, 1176, 1178, 1180, 1182, 1184, 1186, 1188, 1190, 1192, 1194, 1196, 1198, 1200, 1202, 1204, 1206, 1208, 1210, 1212, 1214, 1216, 1218, 1220, 1222, 1224, 1226, 1228, 1230, 1232, 1234, 1236, 1238, 1240, 1242, 1244, 1246, 1248, 1250, 1252, 1254, 1256, 1258, 1260].getD k 0
  | _ => 0
theorem lays_0 : (List.range 10).all (fun k => w_ok (pl_f 0 k) (u_lay RX0 TX0 k)) = true := by decide +kernel
theorem lays_1 : (List.range 4).all (fun k => w_ok (pl_f 1 k) (u_lay RX1 TX1 k)) = true := by decide +kernel
theorem lays_2 : (List.range 12).all (fun k => w_ok (pl_f 2 k) (u_lay RX2 TX2 k)) = true := by decide +kernel
theorem lays_3 : (List.range 6).all (fun k => w_ok (pl_f 3 k) (u_lay RX3 TX3 k)) = true := by decide +kernel
theorem lays_4 : (List.range 2).all (fun k => w_ok (pl_f 4 k) (u_lay RX4 TX4 k)) = true := by decide +kernel
theorem lays_5 : (List.range 3).all (fun k => w_ok (pl_f 5 k) (u_lay RX5 TX5 k)) = true := by decide +kernel
theorem lays_6 : (List.range 2).all (fun k => w_ok (pl_f 6 k) (u_lay RX6 TX6 k)) = true := by decide +kernel
theorem lays_7 : (List.range 9).all (fun k => w_ok (pl_f 7 k) (u_lay RX7 TX7 k)) = true := by decide +kernel
theorem lays_8 : (List.range 10).all (fun k => w_ok (pl_f 8 k) (u_lay RX8 TX8 k)) = true := by decide +kernel
theorem lays_9 : (List.range 6).all (fun k => w_ok (pl_f 9 k) (u_lay RX9 TX9 k)) = true := by decide +kernel
theorem lays_10 : (List.range 11).all (fun k => w_ok (pl_f 10 k) (u_lay RX10 TX10 k)) = true := by decide +kernel
theorem lays_11 : (List.range 62).all (fun k => w_ok (pl_f 11 k) (u_lay RX11 TX11 k)) = true := by decide +kernel
