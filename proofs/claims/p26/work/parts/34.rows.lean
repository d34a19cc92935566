abbrev rJ0_charAt_5068e : Room := kR 3 0 0 64
abbrev rJ0_checkIndex_df160 : Room := kR 1 0 0 22
abbrev rJ0_coder_7d493 : Room := kR 0 0 0 0
abbrev rJ0_isEmpty_aae02 : Room := kR 0 0 0 0
abbrev rJ0_isLatin1_aae02 : Room := kR 0 0 0 0
abbrev rJ0_length_8abf5 : Room := kR 1 0 0 20
abbrev rJ1_charAt_3b067 : Room := kR 2 0 0 43
abbrev rJ3_checkIndex_8e157 : Room := kR 0 0 0 0
