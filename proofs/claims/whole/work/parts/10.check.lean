theorem az_ka0 : az_ckA 0 = true := by
  have h : az_ckM az_h0 az_m0 = true := az_lall
  show (az_ckM az_h0 az_m0 && (decide (0 = 0) || decide (az_h0.1 = az_h0.2.1.cls)) && (match az_m0[0]? with
    | some e => decide (e.1 = 0)
    | none => false)) = true
  rw [h]
  rfl
theorem az_ka1 : az_ckA 1 = true := by decide +kernel
theorem az_ka2 : az_ckA 2 = true := by decide +kernel
theorem az_ka3 : az_ckA 3 = true := by decide +kernel
theorem az_ka4 : az_ckA 4 = true := by decide +kernel
theorem az_ka5 : az_ckA 5 = true := by decide +kernel
theorem az_ka6 : az_ckA 6 = true := by decide +kernel
theorem az_ka7 : az_ckA 7 = true := by decide +kernel
theorem az_ka8 : az_ckA 8 = true := by decide +kernel
theorem az_ka9 : az_ckA 9 = true := by decide +kernel
theorem az_ka10 : az_ckA 10 = true := by decide +kernel
theorem az_ka11 : az_ckA 11 = true := by decide +kernel
theorem az_ka12 : az_ckA 12 = true := by decide +kernel
theorem az_ka13 : az_ckA 13 = true := by decide +kernel
theorem az_ka14 : az_ckA 14 = true := by decide +kernel
theorem az_ka15 : az_ckA 15 = true := by decide +kernel
theorem az_ka16 : az_ckA 16 = true := by decide +kernel
theorem az_ka17 : az_ckA 17 = true := by decide +kernel
theorem az_ka18 : az_ckA 18 = true := by decide +kernel
theorem az_ka19 : az_ckA 19 = true := by decide +kernel
theorem az_ka20 : az_ckA 20 = true := by decide +kernel
theorem az_ka21 : az_ckA 21 = true := by decide +kernel
theorem az_ka22 : az_ckA 22 = true := by decide +kernel
theorem az_ka23 : az_ckA 23 = true := by decide +kernel
theorem az_ka24 : az_ckA 24 = true := by decide +kernel
theorem az_ka25 : az_ckA 25 = true := by decide +kernel
theorem az_ka26 : az_ckA 26 = true := by decide +kernel
theorem az_ka27 : az_ckA 27 = true := by decide +kernel
theorem az_ka28 : az_ckA 28 = true := by decide +kernel
theorem az_ka29 : az_ckA 29 = true := by decide +kernel
theorem az_ka30 : az_ckA 30 = true := by decide +kernel
theorem az_ka31 : az_ckA 31 = true := by decide +kernel
theorem az_ka32 : az_ckA 32 = true := by decide +kernel
theorem az_ka33 : az_ckA 33 = true := by decide +kernel
theorem az_ka34 : az_ckA 34 = true := by decide +kernel
theorem az_ka35 : az_ckA 35 = true := by decide +kernel
theorem az_ka36 : az_ckA 36 = true := by decide +kernel
theorem az_ka37 : az_ckA 37 = true := by decide +kernel
theorem az_ka38 : az_ckA 38 = true := by decide +kernel
theorem az_ka39 : az_ckA 39 = true := by decide +kernel
theorem az_ka40 : az_ckA 40 = true := by decide +kernel
theorem az_ka41 : az_ckA 41 = true := by decide +kernel
theorem az_ka42 : az_ckA 42 = true := by decide +kernel
theorem az_ka43 : az_ckA 43 = true := by decide +kernel
theorem az_ka44 : az_ckA 44 = true := by decide +kernel
theorem az_ka45 : az_ckA 45 = true := by decide +kernel
theorem az_ka46 : az_ckA 46 = true := by decide +kernel
theorem az_ka47 : az_ckA 47 = true := by decide +kernel
theorem az_ka48 : az_ckA 48 = true := by decide +kernel
theorem az_ka49 : az_ckA 49 = true := by decide +kernel
theorem az_ka50 : az_ckA 50 = true := by decide +kernel
theorem az_ka51 : az_ckA 51 = true := by decide +kernel
theorem az_ka52 : az_ckA 52 = true := by decide +kernel
theorem az_ka53 : az_ckA 53 = true := by decide +kernel
theorem az_ka54 : az_ckA 54 = true := by decide +kernel
theorem az_ka55 : az_ckA 55 = true := by decide +kernel
theorem az_ka56 : az_ckA 56 = true := by decide +kernel
theorem az_ka57 : az_ckA 57 = true := by decide +kernel
theorem az_ka58 : az_ckA 58 = true := by decide +kernel
theorem az_ka59 : az_ckA 59 = true := by decide +kernel
theorem az_ka60 : az_ckA 60 = true := by decide +kernel
theorem az_ka61 : az_ckA 61 = true := by decide +kernel
theorem az_ka62 : az_ckA 62 = true := by decide +kernel
theorem az_ka63 : az_ckA 63 = true := by decide +kernel
theorem az_ka64 : az_ckA 64 = true := by decide +kernel
theorem az_ka65 : az_ckA 65 = true := by decide +kernel
theorem az_ka66 : az_ckA 66 = true := by decide +kernel
theorem az_ka67 : az_ckA 67 = true := by decide +kernel
theorem az_ka68 : az_ckA 68 = true := by decide +kernel
theorem az_ka69 : az_ckA 69 = true := by decide +kernel
theorem az_ka70 : az_ckA 70 = true := by decide +kernel
theorem az_ka71 : az_ckA 71 = true := by decide +kernel
theorem az_ka72 : az_ckA 72 = true := by decide +kernel
theorem az_ka73 : az_ckA 73 = true := by decide +kernel
theorem az_ka74 : az_ckA 74 = true := by decide +kernel
theorem az_ka75 : az_ckA 75 = true := by decide +kernel
theorem az_ka76 : az_ckA 76 = true := by decide +kernel
theorem az_ka77 : az_ckA 77 = true := by decide +kernel
theorem az_ka78 : az_ckA 78 = true := by decide +kernel
theorem az_ka79 : az_ckA 79 = true := by decide +kernel
theorem az_ka80 : az_ckA 80 = true := by decide +kernel
theorem az_ka81 : az_ckA 81 = true := by decide +kernel
theorem az_ka82 : az_ckA 82 = true := by decide +kernel
theorem az_ka83 : az_ckA 83 = true := by decide +kernel
theorem az_ka84 : az_ckA 84 = true := by decide +kernel
theorem az_ka85 : az_ckA 85 = true := by decide +kernel
theorem az_ka86 : az_ckA 86 = true := by decide +kernel
theorem az_ka87 : az_ckA 87 = true := by decide +kernel
theorem az_ka88 : az_ckA 88 = true := by decide +kernel
theorem az_ka89 : az_ckA 89 = true := by decide +kernel
theorem az_ka90 : az_ckA 90 = true := by decide +kernel
theorem az_ka91 : az_ckA 91 = true := by decide +kernel
theorem az_ka92 : az_ckA 92 = true := by decide +kernel
theorem az_ka93 : az_ckA 93 = true := by decide +kernel
theorem az_ka94 : az_ckA 94 = true := by decide +kernel
theorem az_ka95 : az_ckA 95 = true := by decide +kernel
theorem az_ka96 : az_ckA 96 = true := by decide +kernel
theorem az_ka97 : az_ckA 97 = true := by decide +kernel
theorem az_ka98 : az_ckA 98 = true := by decide +kernel
theorem az_ka99 : az_ckA 99 = true := by decide +kernel
theorem az_ka100 : az_ckA 100 = true := by decide +kernel
theorem az_ka101 : az_ckA 101 = true := by decide +kernel
theorem az_ka102 : az_ckA 102 = true := by decide +kernel
theorem az_ka103 : az_ckA 103 = true := by decide +kernel
theorem az_ka104 : az_ckA 104 = true := by decide +kernel
theorem az_ka105 : az_ckA 105 = true := by decide +kernel
theorem az_ka106 : az_ckA 106 = true := by decide +kernel
theorem az_ka107 : az_ckA 107 = true := by decide +kernel
theorem az_ka108 : az_ckA 108 = true := by decide +kernel
theorem az_ka109 : az_ckA 109 = true := by decide +kernel
theorem az_ka110 : az_ckA 110 = true := by decide +kernel
theorem az_ka111 : az_ckA 111 = true := by decide +kernel
theorem az_ka112 : az_ckA 112 = true := by decide +kernel
theorem az_ka113 : az_ckA 113 = true := by decide +kernel
theorem az_ka114 : az_ckA 114 = true := by decide +kernel
theorem az_ka115 : az_ckA 115 = true := by decide +kernel
theorem az_ka116 : az_ckA 116 = true := by decide +kernel
theorem az_ka117 : az_ckA 117 = true := by decide +kernel
theorem az_ka118 : az_ckA 118 = true := by decide +kernel
theorem az_ka119 : az_ckA 119 = true := by decide +kernel
theorem az_ka120 : az_ckA 120 = true := by decide +kernel
theorem az_ka121 : az_ckA 121 = true := by decide +kernel
theorem az_ka122 : az_ckA 122 = true := by decide +kernel
theorem az_ka123 : az_ckA 123 = true := by decide +kernel
theorem az_ka124 : az_ckA 124 = true := by decide +kernel
theorem az_ka125 : az_ckA 125 = true := by decide +kernel
theorem az_ka126 : az_ckA 126 = true := by decide +kernel
theorem az_ka127 : az_ckA 127 = true := by decide +kernel
theorem az_ka128 : az_ckA 128 = true := by decide +kernel
theorem az_ka129 : az_ckA 129 = true := by decide +kernel
theorem az_ka130 : az_ckA 130 = true := by decide +kernel
theorem az_ka131 : az_ckA 131 = true := by decide +kernel
theorem az_ka132 : az_ckA 132 = true := by decide +kernel
theorem az_ka133 : az_ckA 133 = true := by decide +kernel
theorem az_ka134 : az_ckA 134 = true := by decide +kernel
theorem az_ka135 : az_ckA 135 = true := by decide +kernel
theorem az_ka136 : az_ckA 136 = true := by decide +kernel
theorem az_ka137 : az_ckA 137 = true := by decide +kernel
theorem az_ka138 : az_ckA 138 = true := by decide +kernel
theorem az_ka139 : az_ckA 139 = true := by decide +kernel
theorem az_ka140 : az_ckA 140 = true := by decide +kernel
theorem az_ka141 : az_ckA 141 = true := by decide +kernel
theorem az_ka142 : az_ckA 142 = true := by decide +kernel
theorem az_ka143 : az_ckA 143 = true := by decide +kernel
theorem az_ka144 : az_ckA 144 = true := by decide +kernel
theorem az_ka145 : az_ckA 145 = true := by decide +kernel
theorem az_ka146 : az_ckA 146 = true := by decide +kernel
theorem az_ka147 : az_ckA 147 = true := by decide +kernel
theorem az_ka148 : az_ckA 148 = true := by decide +kernel
theorem az_ka149 : az_ckA 149 = true := by decide +kernel
theorem az_ka150 : az_ckA 150 = true := by decide +kernel
theorem az_ka151 : az_ckA 151 = true := by decide +kernel
theorem az_ka152 : az_ckA 152 = true := by decide +kernel
theorem az_ka153 : az_ckA 153 = true := by decide +kernel
theorem az_ka154 : az_ckA 154 = true := by decide +kernel
theorem az_ka155 : az_ckA 155 = true := by decide +kernel
theorem az_ka156 : az_ckA 156 = true := by decide +kernel
theorem az_ka157 : az_ckA 157 = true := by decide +kernel
theorem az_ka158 : az_ckA 158 = true := by decide +kernel
theorem az_ka159 : az_ckA 159 = true := by decide +kernel
theorem az_ka160 : az_ckA 160 = true := by decide +kernel
theorem az_ka161 : az_ckA 161 = true := by decide +kernel
theorem az_ka162 : az_ckA 162 = true := by decide +kernel
theorem az_ka163 : az_ckA 163 = true := by decide +kernel
theorem az_ka164 : az_ckA 164 = true := by decide +kernel
theorem az_ka165 : az_ckA 165 = true := by decide +kernel
theorem az_ka166 : az_ckA 166 = true := by decide +kernel
theorem az_ka167 : az_ckA 167 = true := by decide +kernel
theorem az_ka168 : az_ckA 168 = true := by decide +kernel
theorem az_ka169 : az_ckA 169 = true := by decide +kernel
theorem az_ka170 : az_ckA 170 = true := by decide +kernel
theorem az_ka171 : az_ckA 171 = true := by decide +kernel
theorem az_ka172 : az_ckA 172 = true := by decide +kernel
theorem az_ka173 : az_ckA 173 = true := by decide +kernel
theorem az_ka174 : az_ckA 174 = true := by decide +kernel
theorem az_ka175 : az_ckA 175 = true := by decide +kernel
theorem az_ka176 : az_ckA 176 = true := by decide +kernel
theorem az_ka177 : az_ckA 177 = true := by decide +kernel
theorem az_ka178 : az_ckA 178 = true := by decide +kernel
theorem az_ka179 : az_ckA 179 = true := by decide +kernel
theorem az_ka180 : az_ckA 180 = true := by decide +kernel
theorem az_ka181 : az_ckA 181 = true := by decide +kernel
theorem az_ka182 : az_ckA 182 = true := by decide +kernel
theorem az_ka183 : az_ckA 183 = true := by decide +kernel
theorem az_ka184 : az_ckA 184 = true := by decide +kernel
theorem az_ka185 : az_ckA 185 = true := by decide +kernel
theorem az_ka186 : az_ckA 186 = true := by decide +kernel
theorem az_ka187 : az_ckA 187 = true := by decide +kernel
theorem az_ka188 : az_ckA 188 = true := by decide +kernel
theorem az_ka189 : az_ckA 189 = true := by decide +kernel
theorem az_ka190 : az_ckA 190 = true := by decide +kernel
theorem az_ka191 : az_ckA 191 = true := by decide +kernel
theorem az_ka192 : az_ckA 192 = true := by decide +kernel
theorem az_ka193 : az_ckA 193 = true := by decide +kernel
theorem az_ka194 : az_ckA 194 = true := by decide +kernel
theorem az_ka195 : az_ckA 195 = true := by decide +kernel
theorem az_kall : ∀ M, M < 196 → az_ckA M = true := by
  intro M hM
  rcases Nat.lt_or_ge M 98 with h1 | h1
  · rcases Nat.lt_or_ge M 49 with h2 | h2
    · rcases Nat.lt_or_ge M 24 with h3 | h3
      · rcases Nat.lt_or_ge M 12 with h4 | h4
        · rcases Nat.lt_or_ge M 6 with h5 | h5
          · rcases Nat.lt_or_ge M 3 with h6 | h6
            · rcases Nat.lt_or_ge M 1 with h7 | h7
              · have e : M = 0 := by omega
                rw [e]
                exact az_ka0
              · rcases Nat.lt_or_ge M 2 with h8 | h8
                · have e : M = 1 := by omega
                  rw [e]
                  exact az_ka1
                · have e : M = 2 := by omega
                  rw [e]
                  exact az_ka2
            · rcases Nat.lt_or_ge M 4 with h7 | h7
              · have e : M = 3 := by omega
                rw [e]
                exact az_ka3
              · rcases Nat.lt_or_ge M 5 with h8 | h8
                · have e : M = 4 := by omega
                  rw [e]
                  exact az_ka4
                · have e : M = 5 := by omega
                  rw [e]
                  exact az_ka5
          · rcases Nat.lt_or_ge M 9 with h6 | h6
            · rcases Nat.lt_or_ge M 7 with h7 | h7
              · have e : M = 6 := by omega
                rw [e]
                exact az_ka6
              · rcases Nat.lt_or_ge M 8 with h8 | h8
                · have e : M = 7 := by omega
                  rw [e]
                  exact az_ka7
                · have e : M = 8 := by omega
                  rw [e]
                  exact az_ka8
            · rcases Nat.lt_or_ge M 10 with h7 | h7
              · have e : M = 9 := by omega
                rw [e]
                exact az_ka9
              · rcases Nat.lt_or_ge M 11 with h8 | h8
                · have e : M = 10 := by omega
                  rw [e]
                  exact az_ka10
                · have e : M = 11 := by omega
                  rw [e]
                  exact az_ka11
        · rcases Nat.lt_or_ge M 18 with h5 | h5
          · rcases Nat.lt_or_ge M 15 with h6 | h6
            · rcases Nat.lt_or_ge M 13 with h7 | h7
              · have e : M = 12 := by omega
                rw [e]
                exact az_ka12
              · rcases Nat.lt_or_ge M 14 with h8 | h8
                · have e : M = 13 := by omega
                  rw [e]
                  exact az_ka13
                · have e : M = 14 := by omega
                  rw [e]
                  exact az_ka14
            · rcases Nat.lt_or_ge M 16 with h7 | h7
              · have e : M = 15 := by omega
                rw [e]
                exact az_ka15
              · rcases Nat.lt_or_ge M 17 with h8 | h8
                · have e : M = 16 := by omega
                  rw [e]
                  exact az_ka16
                · have e : M = 17 := by omega
                  rw [e]
                  exact az_ka17
          · rcases Nat.lt_or_ge M 21 with h6 | h6
            · rcases Nat.lt_or_ge M 19 with h7 | h7
              · have e : M = 18 := by omega
                rw [e]
                exact az_ka18
              · rcases Nat.lt_or_ge M 20 with h8 | h8
                · have e : M = 19 := by omega
                  rw [e]
                  exact az_ka19
                · have e : M = 20 := by omega
                  rw [e]
                  exact az_ka20
            · rcases Nat.lt_or_ge M 22 with h7 | h7
              · have e : M = 21 := by omega
                rw [e]
                exact az_ka21
              · rcases Nat.lt_or_ge M 23 with h8 | h8
                · have e : M = 22 := by omega
                  rw [e]
                  exact az_ka22
                · have e : M = 23 := by omega
                  rw [e]
                  exact az_ka23
      · rcases Nat.lt_or_ge M 36 with h4 | h4
        · rcases Nat.lt_or_ge M 30 with h5 | h5
          · rcases Nat.lt_or_ge M 27 with h6 | h6
            · rcases Nat.lt_or_ge M 25 with h7 | h7
              · have e : M = 24 := by omega
                rw [e]
                exact az_ka24
              · rcases Nat.lt_or_ge M 26 with h8 | h8
                · have e : M = 25 := by omega
                  rw [e]
                  exact az_ka25
                · have e : M = 26 := by omega
                  rw [e]
                  exact az_ka26
            · rcases Nat.lt_or_ge M 28 with h7 | h7
              · have e : M = 27 := by omega
                rw [e]
                exact az_ka27
              · rcases Nat.lt_or_ge M 29 with h8 | h8
                · have e : M = 28 := by omega
                  rw [e]
                  exact az_ka28
                · have e : M = 29 := by omega
                  rw [e]
                  exact az_ka29
          · rcases Nat.lt_or_ge M 33 with h6 | h6
            · rcases Nat.lt_or_ge M 31 with h7 | h7
              · have e : M = 30 := by omega
                rw [e]
                exact az_ka30
              · rcases Nat.lt_or_ge M 32 with h8 | h8
                · have e : M = 31 := by omega
                  rw [e]
                  exact az_ka31
                · have e : M = 32 := by omega
                  rw [e]
                  exact az_ka32
            · rcases Nat.lt_or_ge M 34 with h7 | h7
              · have e : M = 33 := by omega
                rw [e]
                exact az_ka33
              · rcases Nat.lt_or_ge M 35 with h8 | h8
                · have e : M = 34 := by omega
                  rw [e]
                  exact az_ka34
                · have e : M = 35 := by omega
                  rw [e]
                  exact az_ka35
        · rcases Nat.lt_or_ge M 42 with h5 | h5
          · rcases Nat.lt_or_ge M 39 with h6 | h6
            · rcases Nat.lt_or_ge M 37 with h7 | h7
              · have e : M = 36 := by omega
                rw [e]
                exact az_ka36
              · rcases Nat.lt_or_ge M 38 with h8 | h8
                · have e : M = 37 := by omega
                  rw [e]
                  exact az_ka37
                · have e : M = 38 := by omega
                  rw [e]
                  exact az_ka38
            · rcases Nat.lt_or_ge M 40 with h7 | h7
              · have e : M = 39 := by omega
                rw [e]
                exact az_ka39
              · rcases Nat.lt_or_ge M 41 with h8 | h8
                · have e : M = 40 := by omega
                  rw [e]
                  exact az_ka40
                · have e : M = 41 := by omega
                  rw [e]
                  exact az_ka41
          · rcases Nat.lt_or_ge M 45 with h6 | h6
            · rcases Nat.lt_or_ge M 43 with h7 | h7
              · have e : M = 42 := by omega
                rw [e]
                exact az_ka42
              · rcases Nat.lt_or_ge M 44 with h8 | h8
                · have e : M = 43 := by omega
                  rw [e]
                  exact az_ka43
                · have e : M = 44 := by omega
                  rw [e]
                  exact az_ka44
            · rcases Nat.lt_or_ge M 47 with h7 | h7
              · rcases Nat.lt_or_ge M 46 with h8 | h8
                · have e : M = 45 := by omega
                  rw [e]
                  exact az_ka45
                · have e : M = 46 := by omega
                  rw [e]
                  exact az_ka46
              · rcases Nat.lt_or_ge M 48 with h8 | h8
                · have e : M = 47 := by omega
                  rw [e]
                  exact az_ka47
                · have e : M = 48 := by omega
                  rw [e]
                  exact az_ka48
    · rcases Nat.lt_or_ge M 73 with h3 | h3
      · rcases Nat.lt_or_ge M 61 with h4 | h4
        · rcases Nat.lt_or_ge M 55 with h5 | h5
          · rcases Nat.lt_or_ge M 52 with h6 | h6
            · rcases Nat.lt_or_ge M 50 with h7 | h7
              · have e : M = 49 := by omega
                rw [e]
                exact az_ka49
              · rcases Nat.lt_or_ge M 51 with h8 | h8
                · have e : M = 50 := by omega
                  rw [e]
                  exact az_ka50
                · have e : M = 51 := by omega
                  rw [e]
                  exact az_ka51
            · rcases Nat.lt_or_ge M 53 with h7 | h7
              · have e : M = 52 := by omega
                rw [e]
                exact az_ka52
              · rcases Nat.lt_or_ge M 54 with h8 | h8
                · have e : M = 53 := by omega
                  rw [e]
                  exact az_ka53
                · have e : M = 54 := by omega
                  rw [e]
                  exact az_ka54
          · rcases Nat.lt_or_ge M 58 with h6 | h6
            · rcases Nat.lt_or_ge M 56 with h7 | h7
              · have e : M = 55 := by omega
                rw [e]
                exact az_ka55
              · rcases Nat.lt_or_ge M 57 with h8 | h8
                · have e : M = 56 := by omega
                  rw [e]
                  exact az_ka56
                · have e : M = 57 := by omega
                  rw [e]
                  exact az_ka57
            · rcases Nat.lt_or_ge M 59 with h7 | h7
              · have e : M = 58 := by omega
                rw [e]
                exact az_ka58
              · rcases Nat.lt_or_ge M 60 with h8 | h8
                · have e : M = 59 := by omega
                  rw [e]
                  exact az_ka59
                · have e : M = 60 := by omega
                  rw [e]
                  exact az_ka60
        · rcases Nat.lt_or_ge M 67 with h5 | h5
          · rcases Nat.lt_or_ge M 64 with h6 | h6
            · rcases Nat.lt_or_ge M 62 with h7 | h7
              · have e : M = 61 := by omega
                rw [e]
                exact az_ka61
              · rcases Nat.lt_or_ge M 63 with h8 | h8
                · have e : M = 62 := by omega
                  rw [e]
                  exact az_ka62
                · have e : M = 63 := by omega
                  rw [e]
                  exact az_ka63
            · rcases Nat.lt_or_ge M 65 with h7 | h7
              · have e : M = 64 := by omega
                rw [e]
                exact az_ka64
              · rcases Nat.lt_or_ge M 66 with h8 | h8
                · have e : M = 65 := by omega
                  rw [e]
                  exact az_ka65
                · have e : M = 66 := by omega
                  rw [e]
                  exact az_ka66
          · rcases Nat.lt_or_ge M 70 with h6 | h6
            · rcases Nat.lt_or_ge M 68 with h7 | h7
              · have e : M = 67 := by omega
                rw [e]
                exact az_ka67
              · rcases Nat.lt_or_ge M 69 with h8 | h8
                · have e : M = 68 := by omega
                  rw [e]
                  exact az_ka68
                · have e : M = 69 := by omega
                  rw [e]
                  exact az_ka69
            · rcases Nat.lt_or_ge M 71 with h7 | h7
              · have e : M = 70 := by omega
                rw [e]
                exact az_ka70
              · rcases Nat.lt_or_ge M 72 with h8 | h8
                · have e : M = 71 := by omega
                  rw [e]
                  exact az_ka71
                · have e : M = 72 := by omega
                  rw [e]
                  exact az_ka72
      · rcases Nat.lt_or_ge M 85 with h4 | h4
        · rcases Nat.lt_or_ge M 79 with h5 | h5
          · rcases Nat.lt_or_ge M 76 with h6 | h6
            · rcases Nat.lt_or_ge M 74 with h7 | h7
              · have e : M = 73 := by omega
                rw [e]
                exact az_ka73
              · rcases Nat.lt_or_ge M 75 with h8 | h8
                · have e : M = 74 := by omega
                  rw [e]
                  exact az_ka74
                · have e : M = 75 := by omega
                  rw [e]
                  exact az_ka75
            · rcases Nat.lt_or_ge M 77 with h7 | h7
              · have e : M = 76 := by omega
                rw [e]
                exact az_ka76
              · rcases Nat.lt_or_ge M 78 with h8 | h8
                · have e : M = 77 := by omega
                  rw [e]
                  exact az_ka77
                · have e : M = 78 := by omega
                  rw [e]
                  exact az_ka78
          · rcases Nat.lt_or_ge M 82 with h6 | h6
            · rcases Nat.lt_or_ge M 80 with h7 | h7
              · have e : M = 79 := by omega
                rw [e]
                exact az_ka79
              · rcases Nat.lt_or_ge M 81 with h8 | h8
                · have e : M = 80 := by omega
                  rw [e]
                  exact az_ka80
                · have e : M = 81 := by omega
                  rw [e]
                  exact az_ka81
            · rcases Nat.lt_or_ge M 83 with h7 | h7
              · have e : M = 82 := by omega
                rw [e]
                exact az_ka82
              · rcases Nat.lt_or_ge M 84 with h8 | h8
                · have e : M = 83 := by omega
                  rw [e]
                  exact az_ka83
                · have e : M = 84 := by omega
                  rw [e]
                  exact az_ka84
        · rcases Nat.lt_or_ge M 91 with h5 | h5
          · rcases Nat.lt_or_ge M 88 with h6 | h6
            · rcases Nat.lt_or_ge M 86 with h7 | h7
              · have e : M = 85 := by omega
                rw [e]
                exact az_ka85
              · rcases Nat.lt_or_ge M 87 with h8 | h8
                · have e : M = 86 := by omega
                  rw [e]
                  exact az_ka86
                · have e : M = 87 := by omega
                  rw [e]
                  exact az_ka87
            · rcases Nat.lt_or_ge M 89 with h7 | h7
              · have e : M = 88 := by omega
                rw [e]
                exact az_ka88
              · rcases Nat.lt_or_ge M 90 with h8 | h8
                · have e : M = 89 := by omega
                  rw [e]
                  exact az_ka89
                · have e : M = 90 := by omega
                  rw [e]
                  exact az_ka90
          · rcases Nat.lt_or_ge M 94 with h6 | h6
            · rcases Nat.lt_or_ge M 92 with h7 | h7
              · have e : M = 91 := by omega
                rw [e]
                exact az_ka91
              · rcases Nat.lt_or_ge M 93 with h8 | h8
                · have e : M = 92 := by omega
                  rw [e]
                  exact az_ka92
                · have e : M = 93 := by omega
                  rw [e]
                  exact az_ka93
            · rcases Nat.lt_or_ge M 96 with h7 | h7
              · rcases Nat.lt_or_ge M 95 with h8 | h8
                · have e : M = 94 := by omega
                  rw [e]
                  exact az_ka94
                · have e : M = 95 := by omega
                  rw [e]
                  exact az_ka95
              · rcases Nat.lt_or_ge M 97 with h8 | h8
                · have e : M = 96 := by omega
                  rw [e]
                  exact az_ka96
                · have e : M = 97 := by omega
                  rw [e]
                  exact az_ka97
  · rcases Nat.lt_or_ge M 147 with h2 | h2
    · rcases Nat.lt_or_ge M 122 with h3 | h3
      · rcases Nat.lt_or_ge M 110 with h4 | h4
        · rcases Nat.lt_or_ge M 104 with h5 | h5
          · rcases Nat.lt_or_ge M 101 with h6 | h6
            · rcases Nat.lt_or_ge M 99 with h7 | h7
              · have e : M = 98 := by omega
                rw [e]
                exact az_ka98
              · rcases Nat.lt_or_ge M 100 with h8 | h8
                · have e : M = 99 := by omega
                  rw [e]
                  exact az_ka99
                · have e : M = 100 := by omega
                  rw [e]
                  exact az_ka100
            · rcases Nat.lt_or_ge M 102 with h7 | h7
              · have e : M = 101 := by omega
                rw [e]
                exact az_ka101
              · rcases Nat.lt_or_ge M 103 with h8 | h8
                · have e : M = 102 := by omega
                  rw [e]
                  exact az_ka102
                · have e : M = 103 := by omega
                  rw [e]
                  exact az_ka103
          · rcases Nat.lt_or_ge M 107 with h6 | h6
            · rcases Nat.lt_or_ge M 105 with h7 | h7
              · have e : M = 104 := by omega
                rw [e]
                exact az_ka104
              · rcases Nat.lt_or_ge M 106 with h8 | h8
                · have e : M = 105 := by omega
                  rw [e]
                  exact az_ka105
                · have e : M = 106 := by omega
                  rw [e]
                  exact az_ka106
            · rcases Nat.lt_or_ge M 108 with h7 | h7
              · have e : M = 107 := by omega
                rw [e]
                exact az_ka107
              · rcases Nat.lt_or_ge M 109 with h8 | h8
                · have e : M = 108 := by omega
                  rw [e]
                  exact az_ka108
                · have e : M = 109 := by omega
                  rw [e]
                  exact az_ka109
        · rcases Nat.lt_or_ge M 116 with h5 | h5
          · rcases Nat.lt_or_ge M 113 with h6 | h6
            · rcases Nat.lt_or_ge M 111 with h7 | h7
              · have e : M = 110 := by omega
                rw [e]
                exact az_ka110
              · rcases Nat.lt_or_ge M 112 with h8 | h8
                · have e : M = 111 := by omega
                  rw [e]
                  exact az_ka111
                · have e : M = 112 := by omega
                  rw [e]
                  exact az_ka112
            · rcases Nat.lt_or_ge M 114 with h7 | h7
              · have e : M = 113 := by omega
                rw [e]
                exact az_ka113
              · rcases Nat.lt_or_ge M 115 with h8 | h8
                · have e : M = 114 := by omega
                  rw [e]
                  exact az_ka114
                · have e : M = 115 := by omega
                  rw [e]
                  exact az_ka115
          · rcases Nat.lt_or_ge M 119 with h6 | h6
            · rcases Nat.lt_or_ge M 117 with h7 | h7
              · have e : M = 116 := by omega
                rw [e]
                exact az_ka116
              · rcases Nat.lt_or_ge M 118 with h8 | h8
                · have e : M = 117 := by omega
                  rw [e]
                  exact az_ka117
                · have e : M = 118 := by omega
                  rw [e]
                  exact az_ka118
            · rcases Nat.lt_or_ge M 120 with h7 | h7
              · have e : M = 119 := by omega
                rw [e]
                exact az_ka119
              · rcases Nat.lt_or_ge M 121 with h8 | h8
                · have e : M = 120 := by omega
                  rw [e]
                  exact az_ka120
                · have e : M = 121 := by omega
                  rw [e]
                  exact az_ka121
      · rcases Nat.lt_or_ge M 134 with h4 | h4
        · rcases Nat.lt_or_ge M 128 with h5 | h5
          · rcases Nat.lt_or_ge M 125 with h6 | h6
            · rcases Nat.lt_or_ge M 123 with h7 | h7
              · have e : M = 122 := by omega
                rw [e]
                exact az_ka122
              · rcases Nat.lt_or_ge M 124 with h8 | h8
                · have e : M = 123 := by omega
                  rw [e]
                  exact az_ka123
                · have e : M = 124 := by omega
                  rw [e]
                  exact az_ka124
            · rcases Nat.lt_or_ge M 126 with h7 | h7
              · have e : M = 125 := by omega
                rw [e]
                exact az_ka125
              · rcases Nat.lt_or_ge M 127 with h8 | h8
                · have e : M = 126 := by omega
                  rw [e]
                  exact az_ka126
                · have e : M = 127 := by omega
                  rw [e]
                  exact az_ka127
          · rcases Nat.lt_or_ge M 131 with h6 | h6
            · rcases Nat.lt_or_ge M 129 with h7 | h7
              · have e : M = 128 := by omega
                rw [e]
                exact az_ka128
              · rcases Nat.lt_or_ge M 130 with h8 | h8
                · have e : M = 129 := by omega
                  rw [e]
                  exact az_ka129
                · have e : M = 130 := by omega
                  rw [e]
                  exact az_ka130
            · rcases Nat.lt_or_ge M 132 with h7 | h7
              · have e : M = 131 := by omega
                rw [e]
                exact az_ka131
              · rcases Nat.lt_or_ge M 133 with h8 | h8
                · have e : M = 132 := by omega
                  rw [e]
                  exact az_ka132
                · have e : M = 133 := by omega
                  rw [e]
                  exact az_ka133
        · rcases Nat.lt_or_ge M 140 with h5 | h5
          · rcases Nat.lt_or_ge M 137 with h6 | h6
            · rcases Nat.lt_or_ge M 135 with h7 | h7
              · have e : M = 134 := by omega
                rw [e]
                exact az_ka134
              · rcases Nat.lt_or_ge M 136 with h8 | h8
                · have e : M = 135 := by omega
                  rw [e]
                  exact az_ka135
                · have e : M = 136 := by omega
                  rw [e]
                  exact az_ka136
            · rcases Nat.lt_or_ge M 138 with h7 | h7
              · have e : M = 137 := by omega
                rw [e]
                exact az_ka137
              · rcases Nat.lt_or_ge M 139 with h8 | h8
                · have e : M = 138 := by omega
                  rw [e]
                  exact az_ka138
                · have e : M = 139 := by omega
                  rw [e]
                  exact az_ka139
          · rcases Nat.lt_or_ge M 143 with h6 | h6
            · rcases Nat.lt_or_ge M 141 with h7 | h7
              · have e : M = 140 := by omega
                rw [e]
                exact az_ka140
              · rcases Nat.lt_or_ge M 142 with h8 | h8
                · have e : M = 141 := by omega
                  rw [e]
                  exact az_ka141
                · have e : M = 142 := by omega
                  rw [e]
                  exact az_ka142
            · rcases Nat.lt_or_ge M 145 with h7 | h7
              · rcases Nat.lt_or_ge M 144 with h8 | h8
                · have e : M = 143 := by omega
                  rw [e]
                  exact az_ka143
                · have e : M = 144 := by omega
                  rw [e]
                  exact az_ka144
              · rcases Nat.lt_or_ge M 146 with h8 | h8
                · have e : M = 145 := by omega
                  rw [e]
                  exact az_ka145
                · have e : M = 146 := by omega
                  rw [e]
                  exact az_ka146
    · rcases Nat.lt_or_ge M 171 with h3 | h3
      · rcases Nat.lt_or_ge M 159 with h4 | h4
        · rcases Nat.lt_or_ge M 153 with h5 | h5
          · rcases Nat.lt_or_ge M 150 with h6 | h6
            · rcases Nat.lt_or_ge M 148 with h7 | h7
              · have e : M = 147 := by omega
                rw [e]
                exact az_ka147
              · rcases Nat.lt_or_ge M 149 with h8 | h8
                · have e : M = 148 := by omega
                  rw [e]
                  exact az_ka148
                · have e : M = 149 := by omega
                  rw [e]
                  exact az_ka149
            · rcases Nat.lt_or_ge M 151 with h7 | h7
              · have e : M = 150 := by omega
                rw [e]
                exact az_ka150
              · rcases Nat.lt_or_ge M 152 with h8 | h8
                · have e : M = 151 := by omega
                  rw [e]
                  exact az_ka151
                · have e : M = 152 := by omega
                  rw [e]
                  exact az_ka152
          · rcases Nat.lt_or_ge M 156 with h6 | h6
            · rcases Nat.lt_or_ge M 154 with h7 | h7
              · have e : M = 153 := by omega
                rw [e]
                exact az_ka153
              · rcases Nat.lt_or_ge M 155 with h8 | h8
                · have e : M = 154 := by omega
                  rw [e]
                  exact az_ka154
                · have e : M = 155 := by omega
                  rw [e]
                  exact az_ka155
            · rcases Nat.lt_or_ge M 157 with h7 | h7
              · have e : M = 156 := by omega
                rw [e]
                exact az_ka156
              · rcases Nat.lt_or_ge M 158 with h8 | h8
                · have e : M = 157 := by omega
                  rw [e]
                  exact az_ka157
                · have e : M = 158 := by omega
                  rw [e]
                  exact az_ka158
        · rcases Nat.lt_or_ge M 165 with h5 | h5
          · rcases Nat.lt_or_ge M 162 with h6 | h6
            · rcases Nat.lt_or_ge M 160 with h7 | h7
              · have e : M = 159 := by omega
                rw [e]
                exact az_ka159
              · rcases Nat.lt_or_ge M 161 with h8 | h8
                · have e : M = 160 := by omega
                  rw [e]
                  exact az_ka160
                · have e : M = 161 := by omega
                  rw [e]
                  exact az_ka161
            · rcases Nat.lt_or_ge M 163 with h7 | h7
              · have e : M = 162 := by omega
                rw [e]
                exact az_ka162
              · rcases Nat.lt_or_ge M 164 with h8 | h8
                · have e : M = 163 := by omega
                  rw [e]
                  exact az_ka163
                · have e : M = 164 := by omega
                  rw [e]
                  exact az_ka164
          · rcases Nat.lt_or_ge M 168 with h6 | h6
            · rcases Nat.lt_or_ge M 166 with h7 | h7
              · have e : M = 165 := by omega
                rw [e]
                exact az_ka165
              · rcases Nat.lt_or_ge M 167 with h8 | h8
                · have e : M = 166 := by omega
                  rw [e]
                  exact az_ka166
                · have e : M = 167 := by omega
                  rw [e]
                  exact az_ka167
            · rcases Nat.lt_or_ge M 169 with h7 | h7
              · have e : M = 168 := by omega
                rw [e]
                exact az_ka168
              · rcases Nat.lt_or_ge M 170 with h8 | h8
                · have e : M = 169 := by omega
                  rw [e]
                  exact az_ka169
                · have e : M = 170 := by omega
                  rw [e]
                  exact az_ka170
      · rcases Nat.lt_or_ge M 183 with h4 | h4
        · rcases Nat.lt_or_ge M 177 with h5 | h5
          · rcases Nat.lt_or_ge M 174 with h6 | h6
            · rcases Nat.lt_or_ge M 172 with h7 | h7
              · have e : M = 171 := by omega
                rw [e]
                exact az_ka171
              · rcases Nat.lt_or_ge M 173 with h8 | h8
                · have e : M = 172 := by omega
                  rw [e]
                  exact az_ka172
                · have e : M = 173 := by omega
                  rw [e]
                  exact az_ka173
            · rcases Nat.lt_or_ge M 175 with h7 | h7
              · have e : M = 174 := by omega
                rw [e]
                exact az_ka174
              · rcases Nat.lt_or_ge M 176 with h8 | h8
                · have e : M = 175 := by omega
                  rw [e]
                  exact az_ka175
                · have e : M = 176 := by omega
                  rw [e]
                  exact az_ka176
          · rcases Nat.lt_or_ge M 180 with h6 | h6
            · rcases Nat.lt_or_ge M 178 with h7 | h7
              · have e : M = 177 := by omega
                rw [e]
                exact az_ka177
              · rcases Nat.lt_or_ge M 179 with h8 | h8
                · have e : M = 178 := by omega
                  rw [e]
                  exact az_ka178
                · have e : M = 179 := by omega
                  rw [e]
                  exact az_ka179
            · rcases Nat.lt_or_ge M 181 with h7 | h7
              · have e : M = 180 := by omega
                rw [e]
                exact az_ka180
              · rcases Nat.lt_or_ge M 182 with h8 | h8
                · have e : M = 181 := by omega
                  rw [e]
                  exact az_ka181
                · have e : M = 182 := by omega
                  rw [e]
                  exact az_ka182
        · rcases Nat.lt_or_ge M 189 with h5 | h5
          · rcases Nat.lt_or_ge M 186 with h6 | h6
            · rcases Nat.lt_or_ge M 184 with h7 | h7
              · have e : M = 183 := by omega
                rw [e]
                exact az_ka183
              · rcases Nat.lt_or_ge M 185 with h8 | h8
                · have e : M = 184 := by omega
                  rw [e]
                  exact az_ka184
                · have e : M = 185 := by omega
                  rw [e]
                  exact az_ka185
            · rcases Nat.lt_or_ge M 187 with h7 | h7
              · have e : M = 186 := by omega
                rw [e]
                exact az_ka186
              · rcases Nat.lt_or_ge M 188 with h8 | h8
                · have e : M = 187 := by omega
                  rw [e]
                  exact az_ka187
                · have e : M = 188 := by omega
                  rw [e]
                  exact az_ka188
          · rcases Nat.lt_or_ge M 192 with h6 | h6
            · rcases Nat.lt_or_ge M 190 with h7 | h7
              · have e : M = 189 := by omega
                rw [e]
                exact az_ka189
              · rcases Nat.lt_or_ge M 191 with h8 | h8
                · have e : M = 190 := by omega
                  rw [e]
                  exact az_ka190
                · have e : M = 191 := by omega
                  rw [e]
                  exact az_ka191
            · rcases Nat.lt_or_ge M 194 with h7 | h7
              · rcases Nat.lt_or_ge M 193 with h8 | h8
                · have e : M = 192 := by omega
                  rw [e]
                  exact az_ka192
                · have e : M = 193 := by omega
                  rw [e]
                  exact az_ka193
              · rcases Nat.lt_or_ge M 195 with h8 | h8
                · have e : M = 194 := by omega
                  rw [e]
                  exact az_ka194
                · have e : M = 195 := by omega
                  rw [e]
                  exact az_ka195
theorem az_ok : az_OK := by
  intro M h lc hh hl
  have hM : M < 196 := (List.getElem?_eq_some_iff.mp hh).1
  have h1 := az_kall M hM
  unfold az_ckA at h1
  rw [hh, hl] at h1
  simp only [Bool.and_eq_true, Bool.or_eq_true, decide_eq_true_eq] at h1
  obtain ⟨⟨h2, h3⟩, h4⟩ := h1
  refine ⟨h2, fun h0 => h3.resolve_left h0, ?_⟩
  split at h4
  · next e he => exact ⟨e, he, of_decide_eq_true h4⟩
  · cases h4
