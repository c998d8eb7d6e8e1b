def cst0 : bTb := [[.inr (.inr ()), .inr (.inr ()), .inr (.inr ()), .inr (.inr ()), .inr (.inr ()), .inr (.inr ()), .inr (.inr ()), .inr (.inr ()), .inr (.inr ()), .inr (.inr ()), .inr (.inr ()), .inr (.inr ()), .inr (.inr ()), .inr (.inr ()), .inr (.inr ()), .inr (.inr ())], [.inr (.inr ()), .inr (.inr ()), .inr (.inl (0, [some (some 19), some (some 20), some (some 21), some (some 22), some (some 23), some (some 24), none, none, none, none, none, none, none])), .inl (0, 12, []), .inl (0, 8, []), .inl (0, 8, []), .inl (0, 8, []), .inl (0, 96, []), .inl (0, 64, []), .inr (.inl (1, [some (some 26), none, none])), .inl (0, 400, []), .inr (.inl (7, [some (some 28), some (some 29), none, none])), .inl (3, 12, [none, none, none, none, none, none, none, none, none, none, none, none]), .inl (4, 12, [none, none, none, none, none, none, none, none, none, none, none, none]), .inr (.inr ()), .inr (.inr ())], [.inr (.inr ()), .inr (.inr ()), .inr (.inr ()), .inr (.inr ()), .inr (.inr ()), .inr (.inr ()), .inr (.inr ()), .inr (.inr ()), .inr (.inr ()), .inr (.inr ()), .inr (.inr ()), .inr (.inr ()), .inr (.inr ()), .inr (.inr ()), .inr (.inr ()), .inr (.inr ())], [.inr (.inr ()), .inr (.inr ()), .inr (.inr ()), .inr (.inr ()), .inr (.inr ()), .inr (.inr ()), .inr (.inr ()), .inr (.inr ()), .inr (.inr ()), .inr (.inr ()), .inr (.inr ()), .inr (.inr ()), .inr (.inr ()), .inr (.inr ()), .inr (.inr ()), .inr (.inr ())], [.inr (.inr ()), .inr (.inr ()), .inr (.inr ()), .inr (.inr ()), .inr (.inr ()), .inr (.inr ()), .inr (.inr ()), .inr (.inr ()), .inr (.inr ()), .inr (.inr ()), .inr (.inr ()), .inr (.inr ()), .inr (.inr ()), .inr (.inr ()), .inr (.inr ()), .inr (.inr ())], [.inr (.inr ()), .inr (.inr ()), .inr (.inr ()), .inr (.inr ()), .inr (.inr ()), .inr (.inr ()), .inr (.inr ()), .inr (.inr ()), .inr (.inr ()), .inr (.inr ()), .inr (.inr ()), .inr (.inr ()), .inr (.inr ()), .inr (.inr ()), .inr (.inr ()), .inr (.inr ())]]
def cst1 : bTb := [[.inr (.inr ()), .inr (.inr ()), .inr (.inr ()), .inr (.inr ()), .inr (.inr ()), .inr (.inr ()), .inr (.inr ()), .inr (.inr ()), .inr (.inr ()), .inr (.inr ()), .inr (.inr ()), .inr (.inr ()), .inr (.inr ()), .inr (.inr ()), .inr (.inr ()), .inr (.inr ())], [.inr (.inr ()), .inr (.inr ()), .inr (.inl (0, [some (some 19), some (some 20), some (some 21), some (some 22), some (some 23), some (some 24), none, none, none, none, none, none, none])), .inl (0, 12, []), .inl (0, 8, []), .inl (0, 8, []), .inl (0, 8, []), .inl (0, 96, []), .inl (0, 64, []), .inr (.inl (1, [some (some 26), none, none])), .inl (0, 400, []), .inr (.inl (7, [some (some 28), some (some 29), none, none])), .inl (3, 12, [some 95, none, none, none, none, none, none, none, none, none, none, none]), .inl (4, 12, [some 102, none, none, none, none, none, none, none, none, none, none, none]), .inr (.inr ()), .inr (.inr ())], [.inr (.inr ()), .inr (.inr ()), .inr (.inr ()), .inr (.inr ()), .inr (.inr ()), .inr (.inr ()), .inr (.inr ()), .inr (.inr ()), .inr (.inr ()), .inr (.inr ()), .inr (.inr ()), .inr (.inr ()), .inr (.inr ()), .inr (.inr ()), .inr (.inr ()), .inr (.inr ())], [.inr (.inr ()), .inr (.inr ()), .inr (.inr ()), .inr (.inr ()), .inr (.inr ()), .inr (.inr ()), .inr (.inr ()), .inr (.inr ()), .inr (.inr ()), .inr (.inr ()), .inr (.inr ()), .inr (.inr ()), .inr (.inr ()), .inr (.inr ()), .inr (.inr ()), .inr (.inr ())], [.inr (.inr ()), .inr (.inr ()), .inr (.inr ()), .inr (.inr ()), .inr (.inr ()), .inr (.inr ()), .inr (.inr ()), .inr (.inr ()), .inr (.inr ()), .inr (.inr ()), .inr (.inr ()), .inr (.inr ()), .inr (.inr ()), .inr (.inr ()), .inr (.inr ()), .inr (.inr ())], [.inr (.inr ()), .inr (.inr ()), .inr (.inr ()), .inr (.inr ()), .inr (.inr ()), .inr (.inr ()), .inr (.inr ()), .inr (.inr ()), .inr (.inr ()), .inr (.inr ()), .inr (.inr ()), .inr (.inr ()), .inr (.inr ()), .inr (.inr ()), .inr (.inr ()), .inr (.inl (0, [some (some 96), some (some 97), some (some 98), some (some 99), some (some 100), some (some 101), none, none, none, none, none, none, none]))], [.inl (0, 12, []), .inl (0, 8, []), .inl (0, 8, []), .inl (0, 8, []), .inl (0, 96, []), .inl (0, 64, []), .inr (.inl (1, [some (some 103), none, none])), .inl (0, 400, []), .inr (.inr ()), .inr (.inr ()), .inr (.inr ()), .inr (.inr ()), .inr (.inr ()), .inr (.inr ()), .inr (.inr ()), .inr (.inr ())]]
def cst2 : bTb := [[.inr (.inr ()), .inr (.inr ()), .inr (.inr ()), .inr (.inr ()), .inr (.inr ()), .inr (.inr ()), .inr (.inr ()), .inr (.inr ()), .inr (.inr ()), .inr (.inr ()), .inr (.inr ()), .inr (.inr ()), .inr (.inr ()), .inr (.inr ()), .inr (.inr ()), .inr (.inr ())], [.inr (.inr ()), .inr (.inr ()), .inr (.inl (0, [some (some 19), some (some 20), some (some 21), some (some 22), some (some 23), some (some 24), none, none, none, none, none, none, none])), .inl (0, 12, []), .inl (0, 8, []), .inl (0, 8, []), .inl (0, 8, []), .inl (0, 96, []), .inl (0, 64, []), .inr (.inl (1, [some (some 26), none, none])), .inl (0, 400, []), .inr (.inl (7, [some (some 28), some (some 29), none, none])), .inl (3, 12, [some 95, some 104, none, none, none, none, none, none, none, none, none, none]), .inl (4, 12, [some 102, some 111, none, none, none, none, none, none, none, none, none, none]), .inr (.inr ()), .inr (.inr ())], [.inr (.inr ()), .inr (.inr ()), .inr (.inr ()), .inr (.inr ()), .inr (.inr ()), .inr (.inr ()), .inr (.inr ()), .inr (.inr ()), .inr (.inr ()), .inr (.inr ()), .inr (.inr ()), .inr (.inr ()), .inr (.inr ()), .inr (.inr ()), .inr (.inr ()), .inr (.inr ())], [.inr (.inr ()), .inr (.inr ()), .inr (.inr ()), .inr (.inr ()), .inr (.inr ()), .inr (.inr ()), .inr (.inr ()), .inr (.inr ()), .inr (.inr ()), .inr (.inr ()), .inr (.inr ()), .inr (.inr ()), .inr (.inr ()), .inr (.inr ()), .inr (.inr ()), .inr (.inr ())], [.inr (.inr ()), .inr (.inr ()), .inr (.inr ()), .inr (.inr ()), .inr (.inr ()), .inr (.inr ()), .inr (.inr ()), .inr (.inr ()), .inr (.inr ()), .inr (.inr ()), .inr (.inr ()), .inr (.inr ()), .inr (.inr ()), .inr (.inr ()), .inr (.inr ()), .inr (.inr ())], [.inr (.inr ()), .inr (.inr ()), .inr (.inr ()), .inr (.inr ()), .inr (.inr ()), .inr (.inr ()), .inr (.inr ()), .inr (.inr ()), .inr (.inr ()), .inr (.inr ()), .inr (.inr ()), .inr (.inr ()), .inr (.inr ()), .inr (.inr ()), .inr (.inr ()), .inr (.inl (0, [some (some 96), some (some 97), some (some 98), some (some 99), some (some 100), some (some 101), none, none, none, none, none, none, none]))], [.inl (0, 12, []), .inl (0, 8, []), .inl (0, 8, []), .inl (0, 8, []), .inl (0, 96, []), .inl (0, 64, []), .inr (.inl (1, [some (some 103), none, none])), .inl (0, 400, []), .inr (.inl (0, [some (some 105), some (some 106), some (some 107), some (some 108), some (some 109), some (some 110), none, none, none, none, none, none, none])), .inl (0, 12, []), .inl (0, 8, []), .inl (0, 8, []), .inl (0, 8, []), .inl (0, 96, []), .inl (0, 64, []), .inr (.inl (1, [some (some 112), none, none]))], [.inl (0, 400, []), .inr (.inr ()), .inr (.inr ()), .inr (.inr ()), .inr (.inr ()), .inr (.inr ()), .inr (.inr ()), .inr (.inr ()), .inr (.inr ()), .inr (.inr ()), .inr (.inr ()), .inr (.inr ()), .inr (.inr ()), .inr (.inr ()), .inr (.inr ()), .inr (.inr ())]]
def cst3 : bTb := [[.inr (.inr ()), .inr (.inr ()), .inr (.inr ()), .inr (.inr ()), .inr (.inr ()), .inr (.inr ()), .inr (.inr ()), .inr (.inr ()), .inr (.inr ()), .inr (.inr ()), .inr (.inr ()), .inr (.inr ()), .inr (.inr ()), .inr (.inr ()), .inr (.inr ()), .inr (.inr ())], [.inr (.inr ()), .inr (.inr ()), .inr (.inl (0, [some (some 19), some (some 20), some (some 21), some (some 22), some (some 23), some (some 24), none, none, none, none, none, none, none])), .inl (0, 12, []), .inl (0, 8, []), .inl (0, 8, []), .inl (0, 8, []), .inl (0, 96, []), .inl (0, 64, []), .inr (.inl (1, [some (some 26), none, none])), .inl (0, 400, []), .inr (.inl (7, [some (some 28), some (some 29), none, none])), .inl (3, 12, [some 95, some 104, some 113, none, none, none, none, none, none, none, none, none]), .inl (4, 12, [some 102, some 111, some 120, none, none, none, none, none, none, none, none, none]), .inr (.inr ()), .inr (.inr ())], [.inr (.inr ()), .inr (.inr ()), .inr (.inr ()), .inr (.inr ()), .inr (.inr ()), .inr (.inr ()), .inr (.inr ()), .inr (.inr ()), .inr (.inr ()), .inr (.inr ()), .inr (.inr ()), .inr (.inr ()), .inr (.inr ()), .inr (.inr ()), .inr (.inr ()), .inr (.inr ())], [.inr (.inr ()), .inr (.inr ()), .inr (.inr ()), .inr (.inr ()), .inr (.inr ()), .inr (.inr ()), .inr (.inr ()), .inr (.inr ()), .inr (.inr ()), .inr (.inr ()), .inr (.inr ()), .inr (.inr ()), .inr (.inr ()), .inr (.inr ()), .inr (.inr ()), .inr (.inr ())], [.inr (.inr ()), .inr (.inr ()), .inr (.inr ()), .inr (.inr ()), .inr (.inr ()), .inr (.inr ()), .inr (.inr ()), .inr (.inr ()), .inr (.inr ()), .inr (.inr ()), .inr (.inr ()), .inr (.inr ()), .inr (.inr ()), .inr (.inr ()), .inr (.inr ()), .inr (.inr ())], [.inr (.inr ()), .inr (.inr ()), .inr (.inr ()), .inr (.inr ()), .inr (.inr ()), .inr (.inr ()), .inr (.inr ()), .inr (.inr ()), .inr (.inr ()), .inr (.inr ()), .inr (.inr ()), .inr (.inr ()), .inr (.inr ()), .inr (.inr ()), .inr (.inr ()), .inr (.inl (0, [some (some 96), some (some 97), some (some 98), some (some 99), some (some 100), some (some 101), none, none, none, none, none, none, none]))], [.inl (0, 12, []), .inl (0, 8, []), .inl (0, 8, []), .inl (0, 8, []), .inl (0, 96, []), .inl (0, 64, []), .inr (.inl (1, [some (some 103), none, none])), .inl (0, 400, []), .inr (.inl (0, [some (some 105), some (some 106), some (some 107), some (some 108), some (some 109), some (some 110), none, none, none, none, none, none, none])), .inl (0, 12, []), .inl (0, 8, []), .inl (0, 8, []), .inl (0, 8, []), .inl (0, 96, []), .inl (0, 64, []), .inr (.inl (1, [some (some 112), none, none]))], [.inl (0, 400, []), .inr (.inl (0, [some (some 114), some (some 115), some (some 116), some (some 117), some (some 118), some (some 119), none, none, none, none, none, none, none])), .inl (0, 12, []), .inl (0, 8, []), .inl (0, 8, []), .inl (0, 8, []), .inl (0, 96, []), .inl (0, 64, []), .inr (.inl (1, [some (some 121), none, none])), .inl (0, 400, []), .inr (.inr ()), .inr (.inr ()), .inr (.inr ()), .inr (.inr ()), .inr (.inr ()), .inr (.inr ())]]
def cst4 : bTb := [[.inr (.inr ()), .inr (.inr ()), .inr (.inr ()), .inr (.inr ()), .inr (.inr ()), .inr (.inr ()), .inr (.inr ()), .inr (.inr ()), .inr (.inr ()), .inr (.inr ()), .inr (.inr ()), .inr (.inr ()), .inr (.inr ()), .inr (.inr ()), .inr (.inr ()), .inr (.inr ())], [.inr (.inr ()), .inr (.inr ()), .inr (.inl (0, [some (some 19), some (some 20), some (some 21), some (some 22), some (some 23), some (some 24), none, none, none, none, none, none, none])), .inl (0, 12, []), .inl (0, 8, []), .inl (0, 8, []), .inl (0, 8, []), .inl (0, 96, []), .inl (0, 64, []), .inr (.inl (1, [some (some 26), none, none])), .inl (0, 400, []), .inr (.inl (7, [some (some 28), some (some 29), none, none])), .inl (3, 12, [some 95, some 104, some 113, some 122, none, none, none, none, none, none, none, none]), .inl (4, 12, [some 102, some 111, some 120, some 129, none, none, none, none, none, none, none, none]), .inr (.inr ()), .inr (.inr ())], [.inr (.inr ()), .inr (.inr ()), .inr (.inr ()), .inr (.inr ()), .inr (.inr ()), .inr (.inr ()), .inr (.inr ()), .inr (.inr ()), .inr (.inr ()), .inr (.inr ()), .inr (.inr ()), .inr (.inr ()), .inr (.inr ()), .inr (.inr ()), .inr (.inr ()), .inr (.inr ())], [.inr (.inr ()), .inr (.inr ()), .inr (.inr ()), .inr (.inr ()), .inr (.inr ()), .inr (.inr ()), .inr (.inr ()), .inr (.inr ()), .inr (.inr ()), .inr (.inr ()), .inr (.inr ()), .inr (.inr ()), .inr (.inr ()), .inr (.inr ()), .inr (.inr ()), .inr (.inr ())], [.inr (.inr ()), .inr (.inr ()), .inr (.inr ()), .inr (.inr ()), .inr (.inr ()), .inr (.inr ()), .inr (.inr ()), .inr (.inr ()), .inr (.inr ()), .inr (.inr ()), .inr (.inr ()), .inr (.inr ()), .inr (.inr ()), .inr (.inr ()), .inr (.inr ()), .inr (.inr ())], [.inr (.inr ()), .inr (.inr ()), .inr (.inr ()), .inr (.inr ()), .inr (.inr ()), .inr (.inr ()), .inr (.inr ()), .inr (.inr ()), .inr (.inr ()), .inr (.inr ()), .inr (.inr ()), .inr (.inr ()), .inr (.inr ()), .inr (.inr ()), .inr (.inr ()), .inr (.inl (0, [some (some 96), some (some 97), some (some 98), some (some 99), some (some 100), some (some 101), none, none, none, none, none, none, none]))], [.inl (0, 12, []), .inl (0, 8, []), .inl (0, 8, []), .inl (0, 8, []), .inl (0, 96, []), .inl (0, 64, []), .inr (.inl (1, [some (some 103), none, none])), .inl (0, 400, []), .inr (.inl (0, [some (some 105), some (some 106), some (some 107), some (some 108), some (some 109), some (some 110), none, none, none, none, none, none, none])), .inl (0, 12, []), .inl (0, 8, []), .inl (0, 8, []), .inl (0, 8, []), .inl (0, 96, []), .inl (0, 64, []), .inr (.inl (1, [some (some 112), none, none]))], [.inl (0, 400, []), .inr (.inl (0, [some (some 114), some (some 115), some (some 116), some (some 117), some (some 118), some (some 119), none, none, none, none, none, none, none])), .inl (0, 12, []), .inl (0, 8, []), .inl (0, 8, []), .inl (0, 8, []), .inl (0, 96, []), .inl (0, 64, []), .inr (.inl (1, [some (some 121), none, none])), .inl (0, 400, []), .inr (.inl (0, [some (some 123), some (some 124), some (some 125), some (some 126), some (some 127), some (some 128), none, none, none, none, none, none, none])), .inl (0, 12, []), .inl (0, 8, []), .inl (0, 8, []), .inl (0, 8, []), .inl (0, 96, [])], [.inl (0, 64, []), .inr (.inl (1, [some (some 130), none, none])), .inl (0, 400, []), .inr (.inr ()), .inr (.inr ()), .inr (.inr ()), .inr (.inr ()), .inr (.inr ()), .inr (.inr ()), .inr (.inr ()), .inr (.inr ()), .inr (.inr ()), .inr (.inr ()), .inr (.inr ()), .inr (.inr ()), .inr (.inr ())]]
def cst5 : bTb := [[.inr (.inr ()), .inr (.inr ()), .inr (.inr ()), .inr (.inr ()), .inr (.inr ()), .inr (.inr ()), .inr (.inr ()), .inr (.inr ()), .inr (.inr ()), .inr (.inr ()), .inr (.inr ()), .inr (.inr ()), .inr (.inr ()), .inr (.inr ()), .inr (.inr ()), .inr (.inr ())], [.inr (.inr ()), .inr (.inr ()), .inr (.inl (0, [some (some 19), some (some 20), some (some 21), some (some 22), some (some 23), some (some 24), none, none, none, none, none, none, none])), .inl (0, 12, []), .inl (0, 8, []), .inl (0, 8, []), .inl (0, 8, []), .inl (0, 96, []), .inl (0, 64, []), .inr (.inl (1, [some (some 26), none, none])), .inl (0, 400, []), .inr (.inl (7, [some (some 28), some (some 29), none, none])), .inl (3, 12, [some 95, some 104, some 113, some 122, some 131, none, none, none, none, none, none, none]), .inl (4, 12, [some 102, some 111, some 120, some 129, some 138, none, none, none, none, none, none, none]), .inr (.inr ()), .inr (.inr ())], [.inr (.inr ()), .inr (.inr ()), .inr (.inr ()), .inr (.inr ()), .inr (.inr ()), .inr (.inr ()), .inr (.inr ()), .inr (.inr ()), .inr (.inr ()), .inr (.inr ()), .inr (.inr ()), .inr (.inr ()), .inr (.inr ()), .inr (.inr ()), .inr (.inr ()), .inr (.inr ())], [.inr (.inr ()), .inr (.inr ()), .inr (.inr ()), .inr (.inr ()), .inr (.inr ()), .inr (.inr ()), .inr (.inr ()), .inr (.inr ()), .inr (.inr ()), .inr (.inr ()), .inr (.inr ()), .inr (.inr ()), .inr (.inr ()), .inr (.inr ()), .inr (.inr ()), .inr (.inr ())], [.inr (.inr ()), .inr (.inr ()), .inr (.inr ()), .inr (.inr ()), .inr (.inr ()), .inr (.inr ()), .inr (.inr ()), .inr (.inr ()), .inr (.inr ()), .inr (.inr ()), .inr (.inr ()), .inr (.inr ()), .inr (.inr ()), .inr (.inr ()), .inr (.inr ()), .inr (.inr ())], [.inr (.inr ()), .inr (.inr ()), .inr (.inr ()), .inr (.inr ()), .inr (.inr ()), .inr (.inr ()), .inr (.inr ()), .inr (.inr ()), .inr (.inr ()), .inr (.inr ()), .inr (.inr ()), .inr (.inr ()), .inr (.inr ()), .inr (.inr ()), .inr (.inr ()), .inr (.inl (0, [some (some 96), some (some 97), some (some 98), some (some 99), some (some 100), some (some 101), none, none, none, none, none, none, none]))], [.inl (0, 12, []), .inl (0, 8, []), .inl (0, 8, []), .inl (0, 8, []), .inl (0, 96, []), .inl (0, 64, []), .inr (.inl (1, [some (some 103), none, none])), .inl (0, 400, []), .inr (.inl (0, [some (some 105), some (some 106), some (some 107), some (some 108), some (some 109), some (some 110), none, none, none, none, none, none, none])), .inl (0, 12, []), .inl (0, 8, []), .inl (0, 8, []), .inl (0, 8, []), .inl (0, 96, []), .inl (0, 64, []), .inr (.inl (1, [some (some 112), none, none]))], [.inl (0, 400, []), .inr (.inl (0, [some (some 114), some (some 115), some (some 116), some (some 117), some (some 118), some (some 119), none, none, none, none, none, none, none])), .inl (0, 12, []), .inl (0, 8, []), .inl (0, 8, []), .inl (0, 8, []), .inl (0, 96, []), .inl (0, 64, []), .inr (.inl (1, [some (some 121), none, none])), .inl (0, 400, []), .inr (.inl (0, [some (some 123), some (some 124), some (some 125), some (some 126), some (some 127), some (some 128), none, none, none, none, none, none, none])), .inl (0, 12, []), .inl (0, 8, []), .inl (0, 8, []), .inl (0, 8, []), .inl (0, 96, [])], [.inl (0, 64, []), .inr (.inl (1, [some (some 130), none, none])), .inl (0, 400, []), .inr (.inl (0, [some (some 132), some (some 133), some (some 134), some (some 135), some (some 136), some (some 137), none, none, none, none, none, none, none])), .inl (0, 12, []), .inl (0, 8, []), .inl (0, 8, []), .inl (0, 8, []), .inl (0, 96, []), .inl (0, 64, []), .inr (.inl (1, [some (some 139), none, none])), .inl (0, 400, []), .inr (.inr ()), .inr (.inr ()), .inr (.inr ()), .inr (.inr ())]]
def cst6 : bTb := [[.inr (.inr ()), .inr (.inr ()), .inr (.inr ()), .inr (.inr ()), .inr (.inr ()), .inr (.inr ()), .inr (.inr ()), .inr (.inr ()), .inr (.inr ()), .inr (.inr ()), .inr (.inr ()), .inr (.inr ()), .inr (.inr ()), .inr (.inr ()), .inr (.inr ()), .inr (.inr ())], [.inr (.inr ()), .inr (.inr ()), .inr (.inl (0, [some (some 19), some (some 20), some (some 21), some (some 22), some (some 23), some (some 24), none, none, none, none, none, none, none])), .inl (0, 12, []), .inl (0, 8, []), .inl (0, 8, []), .inl (0, 8, []), .inl (0, 96, []), .inl (0, 64, []), .inr (.inl (1, [some (some 26), none, none])), .inl (0, 400, []), .inr (.inl (7, [some (some 28), some (some 29), none, none])), .inl (3, 12, [some 95, some 104, some 113, some 122, some 131, some 140, none, none, none, none, none, none]), .inl (4, 12, [some 102, some 111, some 120, some 129, some 138, some 147, none, none, none, none, none, none]), .inr (.inr ()), .inr (.inr ())], [.inr (.inr ()), .inr (.inr ()), .inr (.inr ()), .inr (.inr ()), .inr (.inr ()), .inr (.inr ()), .inr (.inr ()), .inr (.inr ()), .inr (.inr ()), .inr (.inr ()), .inr (.inr ()), .inr (.inr ()), .inr (.inr ()), .inr (.inr ()), .inr (.inr ()), .inr (.inr ())], [.inr (.inr ()), .inr (.inr ()), .inr (.inr ()), .inr (.inr ()), .inr (.inr ()), .inr (.inr ()), .inr (.inr ()), .inr (.inr ()), .inr (.inr ()), .inr (.inr ()), .inr (.inr ()), .inr (.inr ()), .inr (.inr ()), .inr (.inr ()), .inr (.inr ()), .inr (.inr ())], [.inr (.inr ()), .inr (.inr ()), .inr (.inr ()), .inr (.inr ()), .inr (.inr ()), .inr (.inr ()), .inr (.inr ()), .inr (.inr ()), .inr (.inr ()), .inr (.inr ()), .inr (.inr ()), .inr (.inr ()), .inr (.inr ()), .inr (.inr ()), .inr (.inr ()), .inr (.inr ())], [.inr (.inr ()), .inr (.inr ()), .inr (.inr ()), .inr (.inr ()), .inr (.inr ()), .inr (.inr ()), .inr (.inr ()), .inr (.inr ()), .inr (.inr ()), .inr (.inr ()), .inr (.inr ()), .inr (.inr ()), .inr (.inr ()), .inr (.inr ()), .inr (.inr ()), .inr (.inl (0, [some (some 96), some (some 97), some (some 98), some (some 99), some (some 100), some (some 101), none, none, none, none, none, none, none]))], [.inl (0, 12, []), .inl (0, 8, []), .inl (0, 8, []), .inl (0, 8, []), .inl (0, 96, []), .inl (0, 64, []), .inr (.inl (1, [some (some 103), none, none])), .inl (0, 400, []), .inr (.inl (0, [some (some 105), some (some 106), some (some 107), some (some 108), some (some 109), some (some 110), none, none, none, none, none, none, none])), .inl (0, 12, []), .inl (0, 8, []), .inl (0, 8, []), .inl (0, 8, []), .inl (0, 96, []), .inl (0, 64, []), .inr (.inl (1, [some (some 112), none, none]))], [.inl (0, 400, []), .inr (.inl (0, [some (some 114), some (some 115), some (some 116), some (some 117), some (some 118), some (some 119), none, none, none, none, none, none, none])), .inl (0, 12, []), .inl (0, 8, []), .inl (0, 8, []), .inl (0, 8, []), .inl (0, 96, []), .inl (0, 64, []), .inr (.inl (1, [some (some 121), none, none])), .inl (0, 400, []), .inr (.inl (0, [some (some 123), some (some 124), some (some 125), some (some 126), some (some 127), some (some 128), none, none, none, none, none, none, none])), .inl (0, 12, []), .inl (0, 8, []), .inl (0, 8, []), .inl (0, 8, []), .inl (0, 96, [])], [.inl (0, 64, []), .inr (.inl (1, [some (some 130), none, none])), .inl (0, 400, []), .inr (.inl (0, [some (some 132), some (some 133), some (some 134), some (some 135), some (some 136), some (some 137), none, none, none, none, none, none, none])), .inl (0, 12, []), .inl (0, 8, []), .inl (0, 8, []), .inl (0, 8, []), .inl (0, 96, []), .inl (0, 64, []), .inr (.inl (1, [some (some 139), none, none])), .inl (0, 400, []), .inr (.inl (0, [some (some 141), some (some 142), some (some 143), some (some 144), some (some 145), some (some 146), none, none, none, none, none, none, none])), .inl (0, 12, []), .inl (0, 8, []), .inl (0, 8, [])], [.inl (0, 8, []), .inl (0, 96, []), .inl (0, 64, []), .inr (.inl (1, [some (some 148), none, none])), .inl (0, 400, []), .inr (.inr ()), .inr (.inr ()), .inr (.inr ()), .inr (.inr ()), .inr (.inr ()), .inr (.inr ()), .inr (.inr ()), .inr (.inr ()), .inr (.inr ()), .inr (.inr ()), .inr (.inr ())]]
def cst7 : bTb := [[.inr (.inr ()), .inr (.inr ()), .inr (.inr ()), .inr (.inr ()), .inr (.inr ()), .inr (.inr ()), .inr (.inr ()), .inr (.inr ()), .inr (.inr ()), .inr (.inr ()), .inr (.inr ()), .inr (.inr ()), .inr (.inr ()), .inr (.inr ()), .inr (.inr ()), .inr (.inr ())], [.inr (.inr ()), .inr (.inr ()), .inr (.inl (0, [some (some 19), some (some 20), some (some 21), some (some 22), some (some 23), some (some 24), none, none, none, none, none, none, none])), .inl (0, 12, []), .inl (0, 8, []), .inl (0, 8, []), .inl (0, 8, []), .inl (0, 96, []), .inl (0, 64, []), .inr (.inl (1, [some (some 26), none, none])), .inl (0, 400, []), .inr (.inl (7, [some (some 28), some (some 29), none, none])), .inl (3, 12, [some 95, some 104, some 113, some 122, some 131, some 140, some 149, none, none, none, none, none]), .inl (4, 12, [some 102, some 111, some 120, some 129, some 138, some 147, some 156, none, none, none, none, none]), .inr (.inr ()), .inr (.inr ())], [.inr (.inr ()), .inr (.inr ()), .inr (.inr ()), .inr (.inr ()), .inr (.inr ()), .inr (.inr ()), .inr (.inr ()), .inr (.inr ()), .inr (.inr ()), .inr (.inr ()), .inr (.inr ()), .inr (.inr ()), .inr (.inr ()), .inr (.inr ()), .inr (.inr ()), .inr (.inr ())], [.inr (.inr ()), .inr (.inr ()), .inr (.inr ()), .inr (.inr ()), .inr (.inr ()), .inr (.inr ()), .inr (.inr ()), .inr (.inr ()), .inr (.inr ()), .inr (.inr ()), .inr (.inr ()), .inr (.inr ()), .inr (.inr ()), .inr (.inr ()), .inr (.inr ()), .inr (.inr ())], [.inr (.inr ()), .inr (.inr ()), .inr (.inr ()), .inr (.inr ()), .inr (.inr ()), .inr (.inr ()), .inr (.inr ()), .inr (.inr ()), .inr (.inr ()), .inr (.inr ()), .inr (.inr ()), .inr (.inr ()), .inr (.inr ()), .inr (.inr ()), .inr (.inr ()), .inr (.inr ())], [.inr (.inr ()), .inr (.inr ()), .inr (.inr ()), .inr (.inr ()), .inr (.inr ()), .inr (.inr ()), .inr (.inr ()), .inr (.inr ()), .inr (.inr ()), .inr (.inr ()), .inr (.inr ()), .inr (.inr ()), .inr (.inr ()), .inr (.inr ()), .inr (.inr ()), .inr (.inl (0, [some (some 96), some (some 97), some (some 98), some (some 99), some (some 100), some (some 101), none, none, none, none, none, none, none]))], [.inl (0, 12, []), .inl (0, 8, []), .inl (0, 8, []), .inl (0, 8, []), .inl (0, 96, []), .inl (0, 64, []), .inr (.inl (1, [some (some 103), none, none])), .inl (0, 400, []), .inr (.inl (0, [some (some 105), some (some 106), some (some 107), some (some 108), some (some 109), some (some 110), none, none, none, none, none, none, none])), .inl (0, 12, []), .inl (0, 8, []), .inl (0, 8, []), .inl (0, 8, []), .inl (0, 96, []), .inl (0, 64, []), .inr (.inl (1, [some (some 112), none, none]))], [.inl (0, 400, []), .inr (.inl (0, [some (some 114), some (some 115), some (some 116), some (some 117), some (some 118), some (some 119), none, none, none, none, none, none, none])), .inl (0, 12, []), .inl (0, 8, []), .inl (0, 8, []), .inl (0, 8, []), .inl (0, 96, []), .inl (0, 64, []), .inr (.inl (1, [some (some 121), none, none])), .inl (0, 400, []), .inr (.inl (0, [some (some 123), some (some 124), some (some 125), some (some 126), some (some 127), some (some 128), none, none, none, none, none, none, none])), .inl (0, 12, []), .inl (0, 8, []), .inl (0, 8, []), .inl (0, 8, []), .inl (0, 96, [])], [.inl (0, 64, []), .inr (.inl (1, [some (some 130), none, none])), .inl (0, 400, []), .inr (.inl (0, [some (some 132), some (some 133), some (some 134), some (some 135), some (some 136), some (some 137), none, none, none, none, none, none, none])), .inl (0, 12, []), .inl (0, 8, []), .inl (0, 8, []), .inl (0, 8, []), .inl (0, 96, []), .inl (0, 64, []), .inr (.inl (1, [some (some 139), none, none])), .inl (0, 400, []), .inr (.inl (0, [some (some 141), some (some 142), some (some 143), some (some 144), some (some 145), some (some 146), none, none, none, none, none, none, none])), .inl (0, 12, []), .inl (0, 8, []), .inl (0, 8, [])], [.inl (0, 8, []), .inl (0, 96, []), .inl (0, 64, []), .inr (.inl (1, [some (some 148), none, none])), .inl (0, 400, []), .inr (.inl (0, [some (some 150), some (some 151), some (some 152), some (some 153), some (some 154), some (some 155), none, none, none, none, none, none, none])), .inl (0, 12, []), .inl (0, 8, []), .inl (0, 8, []), .inl (0, 8, []), .inl (0, 96, []), .inl (0, 64, []), .inr (.inl (1, [some (some 157), none, none])), .inl (0, 400, []), .inr (.inr ()), .inr (.inr ())]]
def cst8 : bTb := [[.inr (.inr ()), .inr (.inr ()), .inr (.inr ()), .inr (.inr ()), .inr (.inr ()), .inr (.inr ()), .inr (.inr ()), .inr (.inr ()), .inr (.inr ()), .inr (.inr ()), .inr (.inr ()), .inr (.inr ()), .inr (.inr ()), .inr (.inr ()), .inr (.inr ()), .inr (.inr ())], [.inr (.inr ()), .inr (.inr ()), .inr (.inl (0, [some (some 19), some (some 20), some (some 21), some (some 22), some (some 23), some (some 24), none, none, none, none, none, none, none])), .inl (0, 12, []), .inl (0, 8, []), .inl (0, 8, []), .inl (0, 8, []), .inl (0, 96, []), .inl (0, 64, []), .inr (.inl (1, [some (some 26), none, none])), .inl (0, 400, []), .inr (.inl (7, [some (some 28), some (some 29), none, none])), .inl (3, 12, [some 95, some 104, some 113, some 122, some 131, some 140, some 149, some 158, none, none, none, none]), .inl (4, 12, [some 102, some 111, some 120, some 129, some 138, some 147, some 156, some 165, none, none, none, none]), .inr (.inr ()), .inr (.inr ())], [.inr (.inr ()), .inr (.inr ()), .inr (.inr ()), .inr (.inr ()), .inr (.inr ()), .inr (.inr ()), .inr (.inr ()), .inr (.inr ()), .inr (.inr ()), .inr (.inr ()), .inr (.inr ()), .inr (.inr ()), .inr (.inr ()), .inr (.inr ()), .inr (.inr ()), .inr (.inr ())], [.inr (.inr ()), .inr (.inr ()), .inr (.inr ()), .inr (.inr ()), .inr (.inr ()), .inr (.inr ()), .inr (.inr ()), .inr (.inr ()), .inr (.inr ()), .inr (.inr ()), .inr (.inr ()), .inr (.inr ()), .inr (.inr ()), .inr (.inr ()), .inr (.inr ()), .inr (.inr ())], [.inr (.inr ()), .inr (.inr ()), .inr (.inr ()), .inr (.inr ()), .inr (.inr ()), .inr (.inr ()), .inr (.inr ()), .inr (.inr ()), .inr (.inr ()), .inr (.inr ()), .inr (.inr ()), .inr (.inr ()), .inr (.inr ()), .inr (.inr ()), .inr (.inr ()), .inr (.inr ())], [.inr (.inr ()), .inr (.inr ()), .inr (.inr ()), .inr (.inr ()), .inr (.inr ()), .inr (.inr ()), .inr (.inr ()), .inr (.inr ()), .inr (.inr ()), .inr (.inr ()), .inr (.inr ()), .inr (.inr ()), .inr (.inr ()), .inr (.inr ()), .inr (.inr ()), .inr (.inl (0, [some (some 96), some (some 97), some (some 98), some (some 99), some (some 100), some (some 101), none, none, none, none, none, none, none]))], [.inl (0, 12, []), .inl (0, 8, []), .inl (0, 8, []), .inl (0, 8, []), .inl (0, 96, []), .inl (0, 64, []), .inr (.inl (1, [some (some 103), none, none])), .inl (0, 400, []), .inr (.inl (0, [some (some 105), some (some 106), some (some 107), some (some 108), some (some 109), some (some 110), none, none, none, none, none, none, none])), .inl (0, 12, []), .inl (0, 8, []), .inl (0, 8, []), .inl (0, 8, []), .inl (0, 96, []), .inl (0, 64, []), .inr (.inl (1, [some (some 112), none, none]))], [.inl (0, 400, []), .inr (.inl (0, [some (some 114), some (some 115), some (some 116), some (some 117), some (some 118), some (some 119), none, none, none, none, none, none, none])), .inl (0, 12, []), .inl (0, 8, []), .inl (0, 8, []), .inl (0, 8, []), .inl (0, 96, []), .inl (0, 64, []), .inr (.inl (1, [some (some 121), none, none])), .inl (0, 400, []), .inr (.inl (0, [some (some 123), some (some 124), some (some 125), some (some 126), some (some 127), some (some 128), none, none, none, none, none, none, none])), .inl (0, 12, []), .inl (0, 8, []), .inl (0, 8, []), .inl (0, 8, []), .inl (0, 96, [])], [.inl (0, 64, []), .inr (.inl (1, [some (some 130), none, none])), .inl (0, 400, []), .inr (.inl (0, [some (some 132), some (some 133), some (some 134), some (some 135), some (some 136), some (some 137), none, none, none, none, none, none, none])), .inl (0, 12, []), .inl (0, 8, []), .inl (0, 8, []), .inl (0, 8, []), .inl (0, 96, []), .inl (0, 64, []), .inr (.inl (1, [some (some 139), none, none])), .inl (0, 400, []), .inr (.inl (0, [some (some 141), some (some 142), some (some 143), some (some 144), some (some 145), some (some 146), none, none, none, none, none, none, none])), .inl (0, 12, []), .inl (0, 8, []), .inl (0, 8, [])], [.inl (0, 8, []), .inl (0, 96, []), .inl (0, 64, []), .inr (.inl (1, [some (some 148), none, none])), .inl (0, 400, []), .inr (.inl (0, [some (some 150), some (some 151), some (some 152), some (some 153), some (some 154), some (some 155), none, none, none, none, none, none, none])), .inl (0, 12, []), .inl (0, 8, []), .inl (0, 8, []), .inl (0, 8, []), .inl (0, 96, []), .inl (0, 64, []), .inr (.inl (1, [some (some 157), none, none])), .inl (0, 400, []), .inr (.inl (0, [some (some 159), some (some 160), some (some 161), some (some 162), some (some 163), some (some 164), none, none, none, none, none, none, none])), .inl (0, 12, [])], [.inl (0, 8, []), .inl (0, 8, []), .inl (0, 8, []), .inl (0, 96, []), .inl (0, 64, []), .inr (.inl (1, [some (some 166), none, none])), .inl (0, 400, []), .inr (.inr ()), .inr (.inr ()), .inr (.inr ()), .inr (.inr ()), .inr (.inr ()), .inr (.inr ()), .inr (.inr ()), .inr (.inr ()), .inr (.inr ())]]
def cst9 : bTb := [[.inr (.inr ()), .inr (.inr ()), .inr (.inr ()), .inr (.inr ()), .inr (.inr ()), .inr (.inr ()), .inr (.inr ()), .inr (.inr ()), .inr (.inr ()), .inr (.inr ()), .inr (.inr ()), .inr (.inr ()), .inr (.inr ()), .inr (.inr ()), .inr (.inr ()), .inr (.inr ())], [.inr (.inr ()), .inr (.inr ()), .inr (.inl (0, [some (some 19), some (some 20), some (some 21), some (some 22), some (some 23), some (some 24), none, none, none, none, none, none, none])), .inl (0, 12, []), .inl (0, 8, []), .inl (0, 8, []), .inl (0, 8, []), .inl (0, 96, []), .inl (0, 64, []), .inr (.inl (1, [some (some 26), none, none])), .inl (0, 400, []), .inr (.inl (7, [some (some 28), some (some 29), none, none])), .inl (3, 12, [some 95, some 104, some 113, some 122, some 131, some 140, some 149, some 158, some 167, none, none, none]), .inl (4, 12, [some 102, some 111, some 120, some 129, some 138, some 147, some 156, some 165, some 174, none, none, none]), .inr (.inr ()), .inr (.inr ())], [.inr (.inr ()), .inr (.inr ()), .inr (.inr ()), .inr (.inr ()), .inr (.inr ()), .inr (.inr ()), .inr (.inr ()), .inr (.inr ()), .inr (.inr ()), .inr (.inr ()), .inr (.inr ()), .inr (.inr ()), .inr (.inr ()), .inr (.inr ()), .inr (.inr ()), .inr (.inr ())], [.inr (.inr ()), .inr (.inr ()), .inr (.inr ()), .inr (.inr ()), .inr (.inr ()), .inr (.inr ()), .inr (.inr ()), .inr (.inr ()), .inr (.inr ()), .inr (.inr ()), .inr (.inr ()), .inr (.inr ()), .inr (.inr ()), .inr (.inr ()), .inr (.inr ()), .inr (.inr ())], [.inr (.inr ()), .inr (.inr ()), .inr (.inr ()), .inr (.inr ()), .inr (.inr ()), .inr (.inr ()), .inr (.inr ()), .inr (.inr ()), .inr (.inr ()), .inr (.inr ()), .inr (.inr ()), .inr (.inr ()), .inr (.inr ()), .inr (.inr ()), .inr (.inr ()), .inr (.inr ())], [.inr (.inr ()), .inr (.inr ()), .inr (.inr ()), .inr (.inr ()), .inr (.inr ()), .inr (.inr ()), .inr (.inr ()), .inr (.inr ()), .inr (.inr ()), .inr (.inr ()), .inr (.inr ()), .inr (.inr ()), .inr (.inr ()), .inr (.inr ()), .inr (.inr ()), .inr (.inl (0, [some (some 96), some (some 97), some (some 98), some (some 99), some (some 100), some (some 101), none, none, none, none, none, none, none]))], [.inl (0, 12, []), .inl (0, 8, []), .inl (0, 8, []), .inl (0, 8, []), .inl (0, 96, []), .inl (0, 64, []), .inr (.inl (1, [some (some 103), none, none])), .inl (0, 400, []), .inr (.inl (0, [some (some 105), some (some 106), some (some 107), some (some 108), some (some 109), some (some 110), none, none, none, none, none, none, none])), .inl (0, 12, []), .inl (0, 8, []), .inl (0, 8, []), .inl (0, 8, []), .inl (0, 96, []), .inl (0, 64, []), .inr (.inl (1, [some (some 112), none, none]))], [.inl (0, 400, []), .inr (.inl (0, [some (some 114), some (some 115), some (some 116), some (some 117), some (some 118), some (some 119), none, none, none, none, none, none, none])), .inl (0, 12, []), .inl (0, 8, []), .inl (0, 8, []), .inl (0, 8, []), .inl (0, 96, []), .inl (0, 64, []), .inr (.inl (1, [some (some 121), none, none])), .inl (0, 400, []), .inr (.inl (0, [some (some 123), some (some 124), some (some 125), some (some 126), some (some 127), some (some 128), none, none, none, none, none, none, none])), .inl (0, 12, []), .inl (0, 8, []), .inl (0, 8, []), .inl (0, 8, []), .inl (0, 96, [])], [.inl (0, 64, []), .inr (.inl (1, [some (some 130), none, none])), .inl (0, 400, []), .inr (.inl (0, [some (some 132), some (some 133), some (some 134), some (some 135), some (some 136), some (some 137), none, none, none, none, none, none, none])), .inl (0, 12, []), .inl (0, 8, []), .inl (0, 8, []), .inl (0, 8, []), .inl (0, 96, []), .inl (0, 64, []), .inr (.inl (1, [some (some 139), none, none])), .inl (0, 400, []), .inr (.inl (0, [some (some 141), some (some 142), some (some 143), some (some 144), some (some 145), some (some 146), none, none, none, none, none, none, none])), .inl (0, 12, []), .inl (0, 8, []), .inl (0, 8, [])], [.inl (0, 8, []), .inl (0, 96, []), .inl (0, 64, []), .inr (.inl (1, [some (some 148), none, none])), .inl (0, 400, []), .inr (.inl (0, [some (some 150), some (some 151), some (some 152), some (some 153), some (some 154), some (some 155), none, none, none, none, none, none, none])), .inl (0, 12, []), .inl (0, 8, []), .inl (0, 8, []), .inl (0, 8, []), .inl (0, 96, []), .inl (0, 64, []), .inr (.inl (1, [some (some 157), none, none])), .inl (0, 400, []), .inr (.inl (0, [some (some 159), some (some 160), some (some 161), some (some 162), some (some 163), some (some 164), none, none, none, none, none, none, none])), .inl (0, 12, [])], [.inl (0, 8, []), .inl (0, 8, []), .inl (0, 8, []), .inl (0, 96, []), .inl (0, 64, []), .inr (.inl (1, [some (some 166), none, none])), .inl (0, 400, []), .inr (.inl (0, [some (some 168), some (some 169), some (some 170), some (some 171), some (some 172), some (some 173), none, none, none, none, none, none, none])), .inl (0, 12, []), .inl (0, 8, []), .inl (0, 8, []), .inl (0, 8, []), .inl (0, 96, []), .inl (0, 64, []), .inr (.inl (1, [some (some 175), none, none])), .inl (0, 400, [])]]
def cst10 : bTb := [[.inr (.inr ()), .inr (.inr ()), .inr (.inr ()), .inr (.inr ()), .inr (.inr ()), .inr (.inr ()), .inr (.inr ()), .inr (.inr ()), .inr (.inr ()), .inr (.inr ()), .inr (.inr ()), .inr (.inr ()), .inr (.inr ()), .inr (.inr ()), .inr (.inr ()), .inr (.inr ())], [.inr (.inr ()), .inr (.inr ()), .inr (.inl (0, [some (some 19), some (some 20), some (some 21), some (some 22), some (some 23), some (some 24), none, none, none, none, none, none, none])), .inl (0, 12, []), .inl (0, 8, []), .inl (0, 8, []), .inl (0, 8, []), .inl (0, 96, []), .inl (0, 64, []), .inr (.inl (1, [some (some 26), none, none])), .inl (0, 400, []), .inr (.inl (7, [some (some 28), some (some 29), none, none])), .inl (3, 12, [some 95, some 104, some 113, some 122, some 131, some 140, some 149, some 158, some 167, some 176, none, none]), .inl (4, 12, [some 102, some 111, some 120, some 129, some 138, some 147, some 156, some 165, some 174, some 183, none, none]), .inr (.inr ()), .inr (.inr ())], [.inr (.inr ()), .inr (.inr ()), .inr (.inr ()), .inr (.inr ()), .inr (.inr ()), .inr (.inr ()), .inr (.inr ()), .inr (.inr ()), .inr (.inr ()), .inr (.inr ()), .inr (.inr ()), .inr (.inr ()), .inr (.inr ()), .inr (.inr ()), .inr (.inr ()), .inr (.inr ())], [.inr (.inr ()), .inr (.inr ()), .inr (.inr ()), .inr (.inr ()), .inr (.inr ()), .inr (.inr ()), .inr (.inr ()), .inr (.inr ()), .inr (.inr ()), .inr (.inr ()), .inr (.inr ()), .inr (.inr ()), .inr (.inr ()), .inr (.inr ()), .inr (.inr ()), .inr (.inr ())], [.inr (.inr ()), .inr (.inr ()), .inr (.inr ()), .inr (.inr ()), .inr (.inr ()), .inr (.inr ()), .inr (.inr ()), .inr (.inr ()), .inr (.inr ()), .inr (.inr ()), .inr (.inr ()), .inr (.inr ()), .inr (.inr ()), .inr (.inr ()), .inr (.inr ()), .inr (.inr ())], [.inr (.inr ()), .inr (.inr ()), .inr (.inr ()), .inr (.inr ()), .inr (.inr ()), .inr (.inr ()), .inr (.inr ()), .inr (.inr ()), .inr (.inr ()), .inr (.inr ()), .inr (.inr ()), .inr (.inr ()), .inr (.inr ()), .inr (.inr ()), .inr (.inr ()), .inr (.inl (0, [some (some 96), some (some 97), some (some 98), some (some 99), some (some 100), some (some 101), none, none, none, none, none, none, none]))], [.inl (0, 12, []), .inl (0, 8, []), .inl (0, 8, []), .inl (0, 8, []), .inl (0, 96, []), .inl (0, 64, []), .inr (.inl (1, [some (some 103), none, none])), .inl (0, 400, []), .inr (.inl (0, [some (some 105), some (some 106), some (some 107), some (some 108), some (some 109), some (some 110), none, none, none, none, none, none, none])), .inl (0, 12, []), .inl (0, 8, []), .inl (0, 8, []), .inl (0, 8, []), .inl (0, 96, []), .inl (0, 64, []), .inr (.inl (1, [some (some 112), none, none]))], [.inl (0, 400, []), .inr (.inl (0, [some (some 114), some (some 115), some (some 116), some (some 117), some (some 118), some (some 119), none, none, none, none, none, none, none])), .inl (0, 12, []), .inl (0, 8, []), .inl (0, 8, []), .inl (0, 8, []), .inl (0, 96, []), .inl (0, 64, []), .inr (.inl (1, [some (some 121), none, none])), .inl (0, 400, []), .inr (.inl (0, [some (some 123), some (some 124), some (some 125), some (some 126), some (some 127), some (some 128), none, none, none, none, none, none, none])), .inl (0, 12, []), .inl (0, 8, []), .inl (0, 8, []), .inl (0, 8, []), .inl (0, 96, [])], [.inl (0, 64, []), .inr (.inl (1, [some (some 130), none, none])), .inl (0, 400, []), .inr (.inl (0, [some (some 132), some (some 133), some (some 134), some (some 135), some (some 136), some (some 137), none, none, none, none, none, none, none])), .inl (0, 12, []), .inl (0, 8, []), .inl (0, 8, []), .inl (0, 8, []), .inl (0, 96, []), .inl (0, 64, []), .inr (.inl (1, [some (some 139), none, none])), .inl (0, 400, []), .inr (.inl (0, [some (some 141), some (some 142), some (some 143), some (some 144), some (some 145), some (some 146), none, none, none, none, none, none, none])), .inl (0, 12, []), .inl (0, 8, []), .inl (0, 8, [])], [.inl (0, 8, []), .inl (0, 96, []), .inl (0, 64, []), .inr (.inl (1, [some (some 148), none, none])), .inl (0, 400, []), .inr (.inl (0, [some (some 150), some (some 151), some (some 152), some (some 153), some (some 154), some (some 155), none, none, none, none, none, none, none])), .inl (0, 12, []), .inl (0, 8, []), .inl (0, 8, []), .inl (0, 8, []), .inl (0, 96, []), .inl (0, 64, []), .inr (.inl (1, [some (some 157), none, none])), .inl (0, 400, []), .inr (.inl (0, [some (some 159), some (some 160), some (some 161), some (some 162), some (some 163), some (some 164), none, none, none, none, none, none, none])), .inl (0, 12, [])], [.inl (0, 8, []), .inl (0, 8, []), .inl (0, 8, []), .inl (0, 96, []), .inl (0, 64, []), .inr (.inl (1, [some (some 166), none, none])), .inl (0, 400, []), .inr (.inl (0, [some (some 168), some (some 169), some (some 170), some (some 171), some (some 172), some (some 173), none, none, none, none, none, none, none])), .inl (0, 12, []), .inl (0, 8, []), .inl (0, 8, []), .inl (0, 8, []), .inl (0, 96, []), .inl (0, 64, []), .inr (.inl (1, [some (some 175), none, none])), .inl (0, 400, [])], [.inr (.inl (0, [some (some 177), some (some 178), some (some 179), some (some 180), some (some 181), some (some 182), none, none, none, none, none, none, none])), .inl (0, 12, []), .inl (0, 8, []), .inl (0, 8, []), .inl (0, 8, []), .inl (0, 96, []), .inl (0, 64, []), .inr (.inl (1, [some (some 184), none, none])), .inl (0, 400, []), .inr (.inr ()), .inr (.inr ()), .inr (.inr ()), .inr (.inr ()), .inr (.inr ()), .inr (.inr ()), .inr (.inr ())]]
def cst11 : bTb := [[.inr (.inr ()), .inr (.inr ()), .inr (.inr ()), .inr (.inr ()), .inr (.inr ()), .inr (.inr ()), .inr (.inr ()), .inr (.inr ()), .inr (.inr ()), .inr (.inr ()), .inr (.inr ()), .inr (.inr ()), .inr (.inr ()), .inr (.inr ()), .inr (.inr ()), .inr (.inr ())], [.inr (.inr ()), .inr (.inr ()), .inr (.inl (0, [some (some 19), some (some 20), some (some 21), some (some 22), some (some 23), some (some 24), none, none, none, none, none, none, none])), .inl (0, 12, []), .inl (0, 8, []), .inl (0, 8, []), .inl (0, 8, []), .inl (0, 96, []), .inl (0, 64, []), .inr (.inl (1, [some (some 26), none, none])), .inl (0, 400, []), .inr (.inl (7, [some (some 28), some (some 29), none, none])), .inl (3, 12, [some 95, some 104, some 113, some 122, some 131, some 140, some 149, some 158, some 167, some 176, some 185, none]), .inl (4, 12, [some 102, some 111, some 120, some 129, some 138, some 147, some 156, some 165, some 174, some 183, some 192, none]), .inr (.inr ()), .inr (.inr ())], [.inr (.inr ()), .inr (.inr ()), .inr (.inr ()), .inr (.inr ()), .inr (.inr ()), .inr (.inr ()), .inr (.inr ()), .inr (.inr ()), .inr (.inr ()), .inr (.inr ()), .inr (.inr ()), .inr (.inr ()), .inr (.inr ()), .inr (.inr ()), .inr (.inr ()), .inr (.inr ())], [.inr (.inr ()), .inr (.inr ()), .inr (.inr ()), .inr (.inr ()), .inr (.inr ()), .inr (.inr ()), .inr (.inr ()), .inr (.inr ()), .inr (.inr ()), .inr (.inr ()), .inr (.inr ()), .inr (.inr ()), .inr (.inr ()), .inr (.inr ()), .inr (.inr ()), .inr (.inr ())], [.inr (.inr ()), .inr (.inr ()), .inr (.inr ()), .inr (.inr ()), .inr (.inr ()), .inr (.inr ()), .inr (.inr ()), .inr (.inr ()), .inr (.inr ()), .inr (.inr ()), .inr (.inr ()), .inr (.inr ()), .inr (.inr ()), .inr (.inr ()), .inr (.inr ()), .inr (.inr ())], [.inr (.inr ()), .inr (.inr ()), .inr (.inr ()), .inr (.inr ()), .inr (.inr ()), .inr (.inr ()), .inr (.inr ()), .inr (.inr ()), .inr (.inr ()), .inr (.inr ()), .inr (.inr ()), .inr (.inr ()), .inr (.inr ()), .inr (.inr ()), .inr (.inr ()), .inr (.inl (0, [some (some 96), some (some 97), some (some 98), some (some 99), some (some 100), some (some 101), none, none, none, none, none, none, none]))], [.inl (0, 12, []), .inl (0, 8, []), .inl (0, 8, []), .inl (0, 8, []), .inl (0, 96, []), .inl (0, 64, []), .inr (.inl (1, [some (some 103), none, none])), .inl (0, 400, []), .inr (.inl (0, [some (some 105), some (some 106), some (some 107), some (some 108), some (some 109), some (some 110), none, none, none, none, none, none, none])), .inl (0, 12, []), .inl (0, 8, []), .inl (0, 8, []), .inl (0, 8, []), .inl (0, 96, []), .inl (0, 64, []), .inr (.inl (1, [some (some 112), none, none]))], [.inl (0, 400, []), .inr (.inl (0, [some (some 114), some (some 115), some (some 116), some (some 117), some (some 118), some (some 119), none, none, none, none, none, none, none])), .inl (0, 12, []), .inl (0, 8, []), .inl (0, 8, []), .inl (0, 8, []), .inl (0, 96, []), .inl (0, 64, []), .inr (.inl (1, [some (some 121), none, none])), .inl (0, 400, []), .inr (.inl (0, [some (some 123), some (some 124), some (some 125), some (some 126), some (some 127), some (some 128), none, none, none, none, none, none, none])), .inl (0, 12, []), .inl (0, 8, []), .inl (0, 8, []), .inl (0, 8, []), .inl (0, 96, [])], [.inl (0, 64, []), .inr (.inl (1, [some (some 130), none, none])), .inl (0, 400, []), .inr (.inl (0, [some (some 132), some (some 133), some (some 134), some (some 135), some (some 136), some (some 137), none, none, none, none, none, none, none])), .inl (0, 12, []), .inl (0, 8, []), .inl (0, 8, []), .inl (0, 8, []), .inl (0, 96, []), .inl (0, 64, []), .inr (.inl (1, [some (some 139), none, none])), .inl (0, 400, []), .inr (.inl (0, [some (some 141), some (some 142), some (some 143), some (some 144), some (some 145), some (some 146), none, none, none, none, none, none, none])), .inl (0, 12, []), .inl (0, 8, []), .inl (0, 8, [])], [.inl (0, 8, []), .inl (0, 96, []), .inl (0, 64, []), .inr (.inl (1, [some (some 148), none, none])), .inl (0, 400, []), .inr (.inl (0, [some (some 150), some (some 151), some (some 152), some (some 153), some (some 154), some (some 155), none, none, none, none, none, none, none])), .inl (0, 12, []), .inl (0, 8, []), .inl (0, 8, []), .inl (0, 8, []), .inl (0, 96, []), .inl (0, 64, []), .inr (.inl (1, [some (some 157), none, none])), .inl (0, 400, []), .inr (.inl (0, [some (some 159), some (some 160), some (some 161), some (some 162), some (some 163), some (some 164), none, none, none, none, none, none, none])), .inl (0, 12, [])], [.inl (0, 8, []), .inl (0, 8, []), .inl (0, 8, []), .inl (0, 96, []), .inl (0, 64, []), .inr (.inl (1, [some (some 166), none, none])), .inl (0, 400, []), .inr (.inl (0, [some (some 168), some (some 169), some (some 170), some (some 171), some (some 172), some (some 173), none, none, none, none, none, none, none])), .inl (0, 12, []), .inl (0, 8, []), .inl (0, 8, []), .inl (0, 8, []), .inl (0, 96, []), .inl (0, 64, []), .inr (.inl (1, [some (some 175), none, none])), .inl (0, 400, [])], [.inr (.inl (0, [some (some 177), some (some 178), some (some 179), some (some 180), some (some 181), some (some 182), none, none, none, none, none, none, none])), .inl (0, 12, []), .inl (0, 8, []), .inl (0, 8, []), .inl (0, 8, []), .inl (0, 96, []), .inl (0, 64, []), .inr (.inl (1, [some (some 184), none, none])), .inl (0, 400, []), .inr (.inl (0, [some (some 186), some (some 187), some (some 188), some (some 189), some (some 190), some (some 191), none, none, none, none, none, none, none])), .inl (0, 12, []), .inl (0, 8, []), .inl (0, 8, []), .inl (0, 8, []), .inl (0, 96, []), .inl (0, 64, [])], [.inr (.inl (1, [some (some 193), none, none])), .inl (0, 400, []), .inr (.inr ()), .inr (.inr ()), .inr (.inr ()), .inr (.inr ()), .inr (.inr ()), .inr (.inr ()), .inr (.inr ()), .inr (.inr ()), .inr (.inr ()), .inr (.inr ()), .inr (.inr ()), .inr (.inr ()), .inr (.inr ()), .inr (.inr ())]]
def cst12 : bTb := [[.inr (.inr ()), .inr (.inr ()), .inr (.inr ()), .inr (.inr ()), .inr (.inr ()), .inr (.inr ()), .inr (.inr ()), .inr (.inr ()), .inr (.inr ()), .inr (.inr ()), .inr (.inr ()), .inr (.inr ()), .inr (.inr ()), .inr (.inr ()), .inr (.inr ()), .inr (.inr ())], [.inr (.inr ()), .inr (.inr ()), .inr (.inl (0, [some (some 19), some (some 20), some (some 21), some (some 22), some (some 23), some (some 24), none, none, none, none, none, none, none])), .inl (0, 12, []), .inl (0, 8, []), .inl (0, 8, []), .inl (0, 8, []), .inl (0, 96, []), .inl (0, 64, []), .inr (.inl (1, [some (some 26), none, none])), .inl (0, 400, []), .inr (.inl (7, [some (some 28), some (some 29), none, none])), .inl (3, 12, [some 95, some 104, some 113, some 122, some 131, some 140, some 149, some 158, some 167, some 176, some 185, some 194]), .inl (4, 12, [some 102, some 111, some 120, some 129, some 138, some 147, some 156, some 165, some 174, some 183, some 192, some 201]), .inr (.inr ()), .inr (.inr ())], [.inr (.inr ()), .inr (.inr ()), .inr (.inr ()), .inr (.inr ()), .inr (.inr ()), .inr (.inr ()), .inr (.inr ()), .inr (.inr ()), .inr (.inr ()), .inr (.inr ()), .inr (.inr ()), .inr (.inr ()), .inr (.inr ()), .inr (.inr ()), .inr (.inr ()), .inr (.inr ())], [.inr (.inr ()), .inr (.inr ()), .inr (.inr ()), .inr (.inr ()), .inr (.inr ()), .inr (.inr ()), .inr (.inr ()), .inr (.inr ()), .inr (.inr ()), .inr (.inr ()), .inr (.inr ()), .inr (.inr ()), .inr (.inr ()), .inr (.inr ()), .inr (.inr ()), .inr (.inr ())], [.inr (.inr ()), .inr (.inr ()), .inr (.inr ()), .inr (.inr ()), .inr (.inr ()), .inr (.inr ()), .inr (.inr ()), .inr (.inr ()), .inr (.inr ()), .inr (.inr ()), .inr (.inr ()), .inr (.inr ()), .inr (.inr ()), .inr (.inr ()), .inr (.inr ()), .inr (.inr ())], [.inr (.inr ()), .inr (.inr ()), .inr (.inr ()), .inr (.inr ()), .inr (.inr ()), .inr (.inr ()), .inr (.inr ()), .inr (.inr ()), .inr (.inr ()), .inr (.inr ()), .inr (.inr ()), .inr (.inr ()), .inr (.inr ()), .inr (.inr ()), .inr (.inr ()), .inr (.inl (0, [some (some 96), some (some 97), some (some 98), some (some 99), some (some 100), some (some 101), none, none, none, none, none, none, none]))], [.inl (0, 12, []), .inl (0, 8, []), .inl (0, 8, []), .inl (0, 8, []), .inl (0, 96, []), .inl (0, 64, []), .inr (.inl (1, [some (some 103), none, none])), .inl (0, 400, []), .inr (.inl (0, [some (some 105), some (some 106), some (some 107), some (some 108), some (some 109), some (some 110), none, none, none, none, none, none, none])), .inl (0, 12, []), .inl (0, 8, []), .inl (0, 8, []), .inl (0, 8, []), .inl (0, 96, []), .inl (0, 64, []), .inr (.inl (1, [some (some 112), none, none]))], [.inl (0, 400, []), .inr (.inl (0, [some (some 114), some (some 115), some (some 116), some (some 117), some (some 118), some (some 119), none, none, none, none, none, none, none])), .inl (0, 12, []), .inl (0, 8, []), .inl (0, 8, []), .inl (0, 8, []), .inl (0, 96, []), .inl (0, 64, []), .inr (.inl (1, [some (some 121), none, none])), .inl (0, 400, []), .inr (.inl (0, [some (some 123), some (some 124), some (some 125), some (some 126), some (some 127), some (some 128), none, none, none, none, none, none, none])), .inl (0, 12, []), .inl (0, 8, []), .inl (0, 8, []), .inl (0, 8, []), .inl (0, 96, [])], [.inl (0, 64, []), .inr (.inl (1, [some (some 130), none, none])), .inl (0, 400, []), .inr (.inl (0, [some (some 132), some (some 133), some (some 134), some (some 135), some (some 136), some (some 137), none, none, none, none, none, none, none])), .inl (0, 12, []), .inl (0, 8, []), .inl (0, 8, []), .inl (0, 8, []), .inl (0, 96, []), .inl (0, 64, []), .inr (.inl (1, [some (some 139), none, none])), .inl (0, 400, []), .inr (.inl (0, [some (some 141), some (some 142), some (some 143), some (some 144), some (some 145), some (some 146), none, none, none, none, none, none, none])), .inl (0, 12, []), .inl (0, 8, []), .inl (0, 8, [])], [.inl (0, 8, []), .inl (0, 96, []), .inl (0, 64, []), .inr (.inl (1, [some (some 148), none, none])), .inl (0, 400, []), .inr (.inl (0, [some (some 150), some (some 151), some (some 152), some (some 153), some (some 154), some (some 155), none, none, none, none, none, none, none])), .inl (0, 12, []), .inl (0, 8, []), .inl (0, 8, []), .inl (0, 8, []), .inl (0, 96, []), .inl (0, 64, []), .inr (.inl (1, [some (some 157), none, none])), .inl (0, 400, []), .inr (.inl (0, [some (some 159), some (some 160), some (some 161), some (some 162), some (some 163), some (some 164), none, none, none, none, none, none, none])), .inl (0, 12, [])], [.inl (0, 8, []), .inl (0, 8, []), .inl (0, 8, []), .inl (0, 96, []), .inl (0, 64, []), .inr (.inl (1, [some (some 166), none, none])), .inl (0, 400, []), .inr (.inl (0, [some (some 168), some (some 169), some (some 170), some (some 171), some (some 172), some (some 173), none, none, none, none, none, none, none])), .inl (0, 12, []), .inl (0, 8, []), .inl (0, 8, []), .inl (0, 8, []), .inl (0, 96, []), .inl (0, 64, []), .inr (.inl (1, [some (some 175), none, none])), .inl (0, 400, [])], [.inr (.inl (0, [some (some 177), some (some 178), some (some 179), some (some 180), some (some 181), some (some 182), none, none, none, none, none, none, none])), .inl (0, 12, []), .inl (0, 8, []), .inl (0, 8, []), .inl (0, 8, []), .inl (0, 96, []), .inl (0, 64, []), .inr (.inl (1, [some (some 184), none, none])), .inl (0, 400, []), .inr (.inl (0, [some (some 186), some (some 187), some (some 188), some (some 189), some (some 190), some (some 191), none, none, none, none, none, none, none])), .inl (0, 12, []), .inl (0, 8, []), .inl (0, 8, []), .inl (0, 8, []), .inl (0, 96, []), .inl (0, 64, [])], [.inr (.inl (1, [some (some 193), none, none])), .inl (0, 400, []), .inr (.inl (0, [some (some 195), some (some 196), some (some 197), some (some 198), some (some 199), some (some 200), none, none, none, none, none, none, none])), .inl (0, 12, []), .inl (0, 8, []), .inl (0, 8, []), .inl (0, 8, []), .inl (0, 96, []), .inl (0, 64, []), .inr (.inl (1, [some (some 202), none, none])), .inl (0, 400, []), .inr (.inr ()), .inr (.inr ()), .inr (.inr ()), .inr (.inr ()), .inr (.inr ())]]
def cst : Nat → bTb
  | 0 => cst0
  | 1 => cst1
  | 2 => cst2
  | 3 => cst3
  | 4 => cst4
  | 5 => cst5
  | 6 => cst6
  | 7 => cst7
  | 8 => cst8
  | 9 => cst9
  | 10 => cst10
  | 11 => cst11
  | _ => cst12
set_option maxRecDepth 100000 in
theorem zat_no {α : Type} : ∀ {l : List α} {i : Nat}, l.length ≤ i → zat l i = none
  | [], _, _ => rfl
  | _ :: l, 0, h => absurd h (by simp)
  | _ :: l, i + 1, h => zat_no (l := l) (Nat.le_of_succ_le_succ h)
set_option maxRecDepth 100000 in
theorem bTB_of {tb : bTb} {sh : List zS} {N : Nat} (h1 : tb.length * 16 ≤ N) (h2 : ∀ c, c < N → bg2 tb c = none ∨ bg2 tb c = some (.inr (.inr ())) ∨ zat sh c = bg2 tb c) : bTB tb sh := by
  intro c s hs hn
  by_cases hc : c < N
  · rcases h2 c hc with h | h | h
    · rw [h] at hs; cases hs
    · rw [h] at hs; cases hs; exact absurd rfl hn
    · rw [h, hs]
  · unfold bg2 at hs
    rw [agt_eq, zat_no (by omega)] at hs
    cases hs
def zsd (a b : Option zS) : Decidable (a = b) := inferInstance
def zse (a b : Option zS) : Bool := @decide (a = b) (zsd a b)
set_option maxRecDepth 100000 in
theorem zse_s {a b : Option zS} (h : zse a b = true) : a = b := @of_decide_eq_true _ (zsd a b) h
noncomputable def btbk (tb : bTb) (sh : List zS) (c : Nat) : Bool := cond (zse (bg2 tb c) none) true (cond (zse (bg2 tb c) (some (.inr (.inr ())))) true (zse (zat sh c) (bg2 tb c)))
set_option maxRecDepth 100000 in
theorem btbk_s {tb : bTb} {sh : List zS} {c : Nat} (h : btbk tb sh c = true) : bg2 tb c = none ∨ bg2 tb c = some (.inr (.inr ())) ∨ zat sh c = bg2 tb c := by
  unfold btbk at h
  cases h1 : zse (bg2 tb c) none with
  | true => exact Or.inl (zse_s h1)
  | false =>
    rw [h1, cond_false] at h
    cases h2 : zse (bg2 tb c) (some (.inr (.inr ()))) with
    | true => exact Or.inr (Or.inl (zse_s h2))
    | false =>
      rw [h2, cond_false] at h
      exact Or.inr (Or.inr (zse_s h))
set_option maxRecDepth 100000 in
theorem cst_t : ∀ r : Nat, r < 13 → (cst r).length * 16 ≤ 208 ∧ ∀ c : Nat, c < 208 → btbk (cst r) (bsT r) c = true := by decide +kernel
set_option maxRecDepth 100000 in
theorem ctb_t : ∀ r : Nat, r < 13 → ctb.length * 16 ≤ 208 ∧ ∀ c : Nat, c < 208 → btbk ctb (bsT r) c = true := by decide +kernel
set_option maxRecDepth 100000 in
theorem cst_B {r : Nat} (hr : r ≤ 12) : bTB (cst r) (bsT r) := bTB_of (cst_t r (by omega)).1 (fun c hc => btbk_s ((cst_t r (by omega)).2 c hc))
set_option maxRecDepth 100000 in
theorem ctb_B {r : Nat} (hr : r ≤ 12) : bTB ctb (bsT r) := bTB_of (ctb_t r (by omega)).1 (fun c hc => btbk_s ((ctb_t r (by omega)).2 c hc))
set_option maxRecDepth 100000 in
theorem cst_28 : ∀ r : Nat, r < 13 → zse (bg2 (cst r) 28) (some (bsG r)) = true ∧ zse (some (bsG r)) (some (.inr (.inr ()))) = false ∧ ∀ q : Nat, q < 13 → zse (zat (bsT q) 28) (some (bsG r)) = true → q = r := by decide +kernel
set_option maxRecDepth 100000 in
theorem zse_n {a b : Option zS} (h : zse a b = false) : a ≠ b := @of_decide_eq_false _ (zsd a b) h
set_option maxRecDepth 100000 in
theorem zse_r {a b : Option zS} (h : a = b) : zse a b = true := @decide_eq_true _ (zsd a b) h
set_option maxRecDepth 100000 in
theorem cst_inj {r : Nat} (hr : r ≤ 12) {h : zH} (hT : bTB (cst r) h.1) (hP : bPS h) : h.1 = bsT r := by
  obtain ⟨q, h1, h2, -⟩ := hP
  obtain ⟨g1, g2, g3⟩ := cst_28 r (by omega)
  have := hT 28 _ (zse_s g1) (fun z => zse_n g2 (congrArg some z))
  rw [h2] at this
  rw [h2, g3 q (by omega) (zse_r this)]
/-- what a state says beside its numbers, with a cells and b slots more -/
def bRQ (tb : bTb) (W : Nat) (h0 : zH) (a b : Nat) (h : zH) : Prop := bHI h ∧ bPS h ∧ bTB tb h.1 ∧ (∀ c k, Nat.testBit W (bun c k) = false → h.2.1 c k = h0.2.1 c k) ∧ h.2.2.2.1 ≤ h0.2.2.2.1 + a ∧ h.2.2.2.2 ≤ h0.2.2.2.2 + b
set_option maxRecDepth 100000 in
theorem bRQ_of {E : zE} {tb : bTb} {W : Nat} {h0 h : zH} {V : List Int} {nv : Nat} {env : bE} {cs : bC} {ov : bO} {a b : Nat} (hS : bSS E tb W h0 V (nv, env, cs, ov, ((a : Int), []), ((b : Int), [])) h) : bRQ tb W h0 a b h := by
  obtain ⟨g1, g2, g3, g4, g5, g6, g7, g8, ⟨y, g9, g10⟩, ⟨z, g11, g12⟩⟩ := hS
  have h1 : y = a := brel_k g9
  have h2 : z = b := brel_k g11
  exact ⟨g5, g6, g7, g8, by omega, by omega⟩
set_option maxRecDepth 100000 in
theorem bSS_ofQ {E : zE} {tb : bTb} {W : Nat} {h0 h : zH} {a b : Nat} (hr : bRQ tb W h0 a b h) {V : List Int} {nv : Nat} {env : bE} {cs : bC} {ov : bO} (h1 : benv V env) (h2 : nv = V.length) (h3 : bcs V cs) (h4 : bOV E V ov h) : bSS E tb W h0 V (nv, env, cs, ov, ((a : Int), []), ((b : Int), [])) h := by
  obtain ⟨g1, g2, g3, g4, g5, g6⟩ := hr
  exact ⟨h1, h2, h3, h4, g1, g2, g3, g4, ⟨(a : Int), brel_c V _, by omega⟩, ⟨(b : Int), brel_c V _, by omega⟩⟩
set_option maxRecDepth 100000 in
theorem bRQ_tb {tb tb' : bTb} {W : Nat} {h0 h : zH} {a b : Nat} (h1 : bRQ tb W h0 a b h) (h2 : bTB tb' h.1) : bRQ tb' W h0 a b h := ⟨h1.1, h1.2.1, h2, h1.2.2.2⟩
/-! instructions on heaps -/
set_option maxRecDepth 100000 in
theorem zna {K : List Value → zH → Option zR} {h : zH} {n : Int32} {N : Nat} {r : List Value} (h1 : n.toInt = (N : Int)) (h2 : N ≤ 100000) : znewa K h 0 (.int n :: r) = K (.ref h.1.length :: r) (zpush h (.inl (0, N, [])) N) := by
  have h3 : ¬ n < 0 := by
    rw [Int32.lt_iff_toInt_lt, h1]
    have h9 : (0 : Int32).toInt = 0 := by decide
    omega
  unfold znewa
  simp only
  rw [if_neg h3, ztc_i h1, Nat.ble_eq_true_of_le h2]
  rfl
set_option maxRecDepth 100000 in
theorem zpr {K : List Value → zH → Option zR} {h : zH} {ci fk a b : Nat} {z : Int32} {sl : List (Option (Option Nat))} {o : Option Nat} {r : List Value} (ha : zat h.1 a = some (.inr (.inl (ci, sl)))) (hs : zat sl fk = some (some o)) : zput K h ci fk z (.ref b :: .ref a :: r) = K r (zsetS h a (.inr (.inl (ci, zset sl fk (some (some b)))))) := by
  unfold zput
  simp only
  rw [ha]
  simp only
  rw [Nat.beq_refl, cond_true, hs]
set_option maxRecDepth 100000 in
theorem zpi {K : List Value → zH → Option zR} {h : zH} {ci fk a : Nat} {y : Int32} {sl : List (Option (Option Nat))} {r : List Value} (ha : zat h.1 a = some (.inr (.inl (ci, sl)))) (hs : zat sl fk = some none) : zput K h ci fk 0 (.int y :: .ref a :: r) = K r (zsetI h a (upd (h.2.1 a) fk y)) := by
  unfold zput
  simp only
  rw [ha]
  simp only
  rw [Nat.beq_refl, cond_true, hs]
  rfl
set_option maxRecDepth 100000 in
theorem zaldA_n {K : List Value → Option zR} {h : zH} {a t n r : Nat} {rf : List (Option Nat)} {x : Int32} {st : List Value} (hA : zat h.1 a = some (.inl (t, n, rf))) (ht : Nat.ble 3 t = true) (hx : x.toInt = (r : Int)) (hr : r < n) (hz : zat rf r = some none) : zaldA K h (.int x :: .ref a :: st) = K (.null :: st) := by
  unfold zaldA
  simp only
  rw [hA]
  simp only
  rw [ht, cond_true, zck_i hx hr, ztc_i hx, hz]
  rfl
set_option maxRecDepth 100000 in
theorem zastA_n {K : List Value → zH → Option zR} {h : zH} {a t n r b cl : Nat} {rf : List (Option Nat)} {sl : List (Option (Option Nat))} {x : Int32} {st : List Value} (hA : zat h.1 a = some (.inl (t, n, rf))) (ht : Nat.ble 3 t = true) (hx : x.toInt = (r : Int)) (hr : r < n) (hb : zat h.1 b = some (.inr (.inl (cl, sl)))) (hc : Nat.beq (cl + 3) t = true) : zastA K h (.ref b :: .int x :: .ref a :: st) = K st (zsetS h a (.inl (t, n, zset rf r (some b)))) := by
  unfold zastA
  simp only
  rw [hA]
  simp only
  rw [ht, cond_true, zck_i hx hr, hb]
  simp only
  rw [hc, cond_true, ztc_i hx]
set_option maxRecDepth 100000 in
theorem zinv_1 {ih : zF} {nx : zLs → List Value → zH → Option zR} {d mi pc j ci b : Nat} {sl : List (Option (Option Nat))} {ls : zLs} {r : List Value} {h h1 : zH} {tx : Bool} (hj : zat zmi j = some (1, 1, 0, ci, 0, 0)) (hb : zat h.1 b = some (.inr (.inl (ci, sl)))) (hr : Nat.ble (zsum r) 8 = true) (hc : ih d j 0 [some (.ref b)] [] h = some (.inl none, h1)) : zinv ih nx (d + 1) mi pc j tx ls (.ref b :: r) h = nx ls r h1 := by
  unfold zinv
  rw [hj]
  show cond (Nat.ble (zsum r) 8 && true) (zrecv h 0 ci [.ref b] (zcall (ih d j 0 [some (.ref b)] [] h) (fun v h1 => nx ls (v.toList ++ r) h1) _)) none = _
  rw [hr]
  unfold zrecv
  simp only [Bool.and_true, cond_true]
  rw [hb]
  simp only
  rw [Nat.beq_refl, cond_true, hc]
  rfl
set_option maxRecDepth 100000 in
theorem zmi90 : zat zmi 90 = some (1, 1, 0, 0, 0, 0) := rfl
set_option maxRecDepth 100000 in
theorem zmi107 : zat zmi 107 = some (1, 1, 0, 1, 0, 0) := rfl
set_option maxRecDepth 100000 in
theorem zat_md {α : Type} : ∀ {l : List α} {x : α} {U : List α}, zat (l ++ x :: U) l.length = some x
  | [], _, _ => rfl
  | _ :: l, x, U => zat_md (l := l)
set_option maxRecDepth 100000 in
theorem zset_md {α : Type} : ∀ {l : List α} {x y : α} {U : List α}, zset (l ++ x :: U) l.length y = l ++ y :: U
  | [], _, _, _ => rfl
  | a :: l, x, y, U => congrArg (a :: ·) (zset_md (l := l))
/-- an object in the making, behind the heap h: its class, its fields, the rows behind it, the slots, its ints -/
def zNW (h : zH) (ci : Nat) (sl : List (Option (Option Nat))) (U : List zS) (S : Nat) (f : Nat → Int32) (h1 : zH) : Prop := h1.1 = h.1 ++ (.inr (.inl (ci, sl))) :: U ∧ (∀ c, c < h.1.length → h1.2.1 c = h.2.1 c) ∧ h1.2.1 h.1.length = f ∧ (∀ c, h.1.length < c → c ≤ h.1.length + U.length → ∀ k, h1.2.1 c k = 0) ∧ (∀ c, h.1.length + U.length < c → h1.2.1 c = h.2.1 c) ∧ h1.2.2.2.1 = h.2.2.2.1 + 1 + U.length ∧ h1.2.2.2.2 = h.2.2.2.2 + S
set_option maxRecDepth 100000 in
theorem znw_l {h h1 : zH} {ci S : Nat} {sl : List (Option (Option Nat))} {U : List zS} {f : Nat → Int32} (w : zNW h ci sl U S f h1) : h1.1.length = h.1.length + 1 + U.length := by
  rw [w.1]
  simp only [List.length_append, List.length_cons]
  omega
set_option maxRecDepth 100000 in
theorem znw_c {h h1 : zH} {ci S : Nat} {sl : List (Option (Option Nat))} {U : List zS} {f : Nat → Int32} (w : zNW h ci sl U S f h1) : zat h1.1 h.1.length = some (.inr (.inl (ci, sl))) := by
  rw [w.1]
  exact zat_md
set_option maxRecDepth 100000 in
theorem znw_0 {h : zH} {ci : Nat} {sl : List (Option (Option Nat))} {n : Nat} : zNW h ci sl [] n (fun _ => 0) (zpush h (.inr (.inl (ci, sl))) n) := by
  refine ⟨rfl, fun c hc => ?_, ?_, fun c h1 h2 => ?_, fun c hc => ?_, rfl, rfl⟩
  · exact zrow_ne _ _ (by omega)
  · exact zrow_at _ _ _
  · have h2 : c ≤ h.1.length + 0 := h2
    omega
  · have hc : h.1.length + 0 < c := hc
    exact zrow_ne _ _ (by omega)
set_option maxRecDepth 100000 in
theorem znw_a {h h1 : zH} {ci S N fk : Nat} {sl : List (Option (Option Nat))} {U : List zS} {f : Nat → Int32} {o : Option Nat} (w : zNW h ci sl U S f h1) (hs : zat sl fk = some (some o)) : zNW h ci (zset sl fk (some (some (h.1.length + 1 + U.length)))) (U ++ [.inl (0, N, [])]) (S + N) f (zsetS (zpush h1 (.inl (0, N, [])) N) h.1.length (.inr (.inl (ci, zset sl fk (some (some h1.1.length)))))) := by
  have hl := znw_l w
  obtain ⟨w1, w2, w3, w4, w5, w6, w7⟩ := w
  have hU : (U ++ [(.inl (0, N, []) : zS)]).length = U.length + 1 := by simp
  refine ⟨?_, fun c hc => ?_, ?_, fun c g1 g2 k => ?_, fun c hc => ?_, ?_, ?_⟩
  · show zset (h1.1 ++ [.inl (0, N, [])]) h.1.length _ = _
    rw [hl, w1, List.append_assoc]
    exact zset_md
  · show zrow h1.2.1 h1.1.length (fun _ => 0) c = _
    rw [zrow_ne _ _ (by omega)]
    exact w2 c hc
  · show zrow h1.2.1 h1.1.length (fun _ => 0) h.1.length = _
    rw [zrow_ne _ _ (by omega)]
    exact w3
  · rw [hU] at g2
    show zrow h1.2.1 h1.1.length (fun _ => 0) c k = 0
    by_cases hc : c = h1.1.length
    · rw [hc, zrow_at]
    · rw [zrow_ne _ _ hc]
      exact w4 c g1 (by omega) k
  · rw [hU] at hc
    show zrow h1.2.1 h1.1.length (fun _ => 0) c = _
    rw [zrow_ne _ _ (by omega)]
    exact w5 c (by omega)
  · show h1.2.2.2.1 + 1 = _
    rw [hU]
    omega
  · show h1.2.2.2.2 + N = _
    omega
set_option maxRecDepth 100000 in
theorem znw_i {h h1 : zH} {ci S fk : Nat} {y : Int32} {sl : List (Option (Option Nat))} {U : List zS} {f : Nat → Int32} (w : zNW h ci sl U S f h1) : zNW h ci sl U S (upd f fk y) (zsetI h1 h.1.length (upd (h1.2.1 h.1.length) fk y)) := by
  obtain ⟨w1, w2, w3, w4, w5, w6, w7⟩ := w
  refine ⟨w1, fun c hc => ?_, ?_, fun c g1 g2 k => ?_, fun c hc => ?_, w6, w7⟩
  · show zrow h1.2.1 h.1.length _ c = _
    rw [zrow_ne _ _ (by omega)]
    exact w2 c hc
  · show zrow h1.2.1 h.1.length _ h.1.length = _
    rw [zrow_at, w3]
  · show zrow h1.2.1 h.1.length _ c k = 0
    rw [zrow_ne _ _ (by omega)]
    exact w4 c g1 g2 k
  · show zrow h1.2.1 h.1.length _ c = _
    rw [zrow_ne _ _ (by omega)]
    exact w5 c hc

section ZK90
variable {E : zE} {d c : Nat} {h : zH} {sl : List (Option (Option Nat))} {st : List Value}
set_option maxRecDepth 100000 in
theorem zf90_0 : zfetch 90 0 = some (.aload_n 0, 1, (0, 0, 0), 0, 0) := by decide +kernel
set_option maxRecDepth 100000 in
theorem zk90_0 (n : Nat) : zex E (n + 1) d 90 0 [some (.ref c)] st h = zex E n d 90 1 [some (.ref c)] (.ref c :: st) h := (zx1 zf90_0).trans (rfl)
set_option maxRecDepth 100000 in
theorem zf90_1 : zfetch 90 1 = some (.invokespecial 3, 3, (1, 0, 0), 0, 368) := by decide +kernel
set_option maxRecDepth 100000 in
theorem zk90_1 (n : Nat) : zex E (n + 1) d 90 1 [some (.ref c)] [.ref c] h = zex E n d 90 4 [some (.ref c)] [] h := (zx1 zf90_1).trans (rfl)
set_option maxRecDepth 100000 in
theorem zf90_4 : zfetch 90 4 = some (.aload_n 0, 1, (0, 0, 0), 0, 0) := by decide +kernel
set_option maxRecDepth 100000 in
theorem zk90_4 (n : Nat) : zex E (n + 1) d 90 4 [some (.ref c)] st h = zex E n d 90 5 [some (.ref c)] (.ref c :: st) h := (zx1 zf90_4).trans (rfl)
set_option maxRecDepth 100000 in
theorem zf90_5 : zfetch 90 5 = some (.bipush 12, 2, (0, 0, 0), 12, 0) := by decide +kernel
set_option maxRecDepth 100000 in
theorem zk90_5 (n : Nat) : zex E (n + 1) d 90 5 [some (.ref c)] st h = zex E n d 90 7 [some (.ref c)] (.int 12 :: st) h := (zx1 zf90_5).trans (rfl)
set_option maxRecDepth 100000 in
theorem zf90_7 : zfetch 90 7 = some (.newarray .int, 2, (0, 0, 0), 0, 251) := by decide +kernel
set_option maxRecDepth 100000 in
theorem zk90_7 (n : Nat) : zex E (n + 1) d 90 7 [some (.ref c)] (.int 12 :: st) h = zex E n d 90 9 [some (.ref c)] (.ref h.1.length :: st) (zpush h (.inl (0, 12, [])) 12) := (zx1 zf90_7).trans (zna (K := fun s h => zex E n d 90 9 [some (.ref c)] s h) (h := h) (n := 12) (N := 12) (r := st) (by decide) (by decide))
set_option maxRecDepth 100000 in
theorem zf90_9 : zfetch 90 9 = some (.putfield 9, 3, (0, 0, 0), 0, 369) := by decide +kernel
set_option maxRecDepth 100000 in
theorem zk90_9 {b : Nat} {o : Option Nat} (hc : zat h.1 c = some (.inr (.inl (0, sl)))) (hs : zat sl 0 = some (some o)) (n : Nat) : zex E (n + 1) d 90 9 [some (.ref c)] [.ref b, .ref c] h = zex E n d 90 12 [some (.ref c)] [] (zsetS h c (.inr (.inl (0, zset sl 0 (some (some b)))))) := (zx1 zf90_9).trans (zpr (K := fun s h => zex E n d 90 12 [some (.ref c)] s h) (z := 0) hc hs)
set_option maxRecDepth 100000 in
theorem zf90_12 : zfetch 90 12 = some (.aload_n 0, 1, (0, 0, 0), 0, 0) := by decide +kernel
set_option maxRecDepth 100000 in
theorem zk90_12 (n : Nat) : zex E (n + 1) d 90 12 [some (.ref c)] st h = zex E n d 90 13 [some (.ref c)] (.ref c :: st) h := (zx1 zf90_12).trans (rfl)
set_option maxRecDepth 100000 in
theorem zf90_13 : zfetch 90 13 = some (.bipush 8, 2, (0, 0, 0), 8, 0) := by decide +kernel
set_option maxRecDepth 100000 in
theorem zk90_13 (n : Nat) : zex E (n + 1) d 90 13 [some (.ref c)] st h = zex E n d 90 15 [some (.ref c)] (.int 8 :: st) h := (zx1 zf90_13).trans (rfl)
set_option maxRecDepth 100000 in
theorem zf90_15 : zfetch 90 15 = some (.newarray .int, 2, (0, 0, 0), 0, 251) := by decide +kernel
set_option maxRecDepth 100000 in
theorem zk90_15 (n : Nat) : zex E (n + 1) d 90 15 [some (.ref c)] (.int 8 :: st) h = zex E n d 90 17 [some (.ref c)] (.ref h.1.length :: st) (zpush h (.inl (0, 8, [])) 8) := (zx1 zf90_15).trans (zna (K := fun s h => zex E n d 90 17 [some (.ref c)] s h) (h := h) (n := 8) (N := 8) (r := st) (by decide) (by decide))
set_option maxRecDepth 100000 in
theorem zf90_17 : zfetch 90 17 = some (.putfield 15, 3, (0, 1, 0), 0, 374) := by decide +kernel
set_option maxRecDepth 100000 in
theorem zk90_17 {b : Nat} {o : Option Nat} (hc : zat h.1 c = some (.inr (.inl (0, sl)))) (hs : zat sl 1 = some (some o)) (n : Nat) : zex E (n + 1) d 90 17 [some (.ref c)] [.ref b, .ref c] h = zex E n d 90 20 [some (.ref c)] [] (zsetS h c (.inr (.inl (0, zset sl 1 (some (some b)))))) := (zx1 zf90_17).trans (zpr (K := fun s h => zex E n d 90 20 [some (.ref c)] s h) (z := 0) hc hs)
set_option maxRecDepth 100000 in
theorem zf90_20 : zfetch 90 20 = some (.aload_n 0, 1, (0, 0, 0), 0, 0) := by decide +kernel
set_option maxRecDepth 100000 in
theorem zk90_20 (n : Nat) : zex E (n + 1) d 90 20 [some (.ref c)] st h = zex E n d 90 21 [some (.ref c)] (.ref c :: st) h := (zx1 zf90_20).trans (rfl)
set_option maxRecDepth 100000 in
theorem zf90_21 : zfetch 90 21 = some (.bipush 8, 2, (0, 0, 0), 8, 0) := by decide +kernel
set_option maxRecDepth 100000 in
theorem zk90_21 (n : Nat) : zex E (n + 1) d 90 21 [some (.ref c)] st h = zex E n d 90 23 [some (.ref c)] (.int 8 :: st) h := (zx1 zf90_21).trans (rfl)
set_option maxRecDepth 100000 in
theorem zf90_23 : zfetch 90 23 = some (.newarray .int, 2, (0, 0, 0), 0, 251) := by decide +kernel
set_option maxRecDepth 100000 in
theorem zk90_23 (n : Nat) : zex E (n + 1) d 90 23 [some (.ref c)] (.int 8 :: st) h = zex E n d 90 25 [some (.ref c)] (.ref h.1.length :: st) (zpush h (.inl (0, 8, [])) 8) := (zx1 zf90_23).trans (zna (K := fun s h => zex E n d 90 25 [some (.ref c)] s h) (h := h) (n := 8) (N := 8) (r := st) (by decide) (by decide))
set_option maxRecDepth 100000 in
theorem zf90_25 : zfetch 90 25 = some (.putfield 18, 3, (0, 2, 0), 0, 378) := by decide +kernel
set_option maxRecDepth 100000 in
theorem zk90_25 {b : Nat} {o : Option Nat} (hc : zat h.1 c = some (.inr (.inl (0, sl)))) (hs : zat sl 2 = some (some o)) (n : Nat) : zex E (n + 1) d 90 25 [some (.ref c)] [.ref b, .ref c] h = zex E n d 90 28 [some (.ref c)] [] (zsetS h c (.inr (.inl (0, zset sl 2 (some (some b)))))) := (zx1 zf90_25).trans (zpr (K := fun s h => zex E n d 90 28 [some (.ref c)] s h) (z := 0) hc hs)
set_option maxRecDepth 100000 in
theorem zf90_28 : zfetch 90 28 = some (.aload_n 0, 1, (0, 0, 0), 0, 0) := by decide +kernel
set_option maxRecDepth 100000 in
theorem zk90_28 (n : Nat) : zex E (n + 1) d 90 28 [some (.ref c)] st h = zex E n d 90 29 [some (.ref c)] (.ref c :: st) h := (zx1 zf90_28).trans (rfl)
set_option maxRecDepth 100000 in
theorem zf90_29 : zfetch 90 29 = some (.bipush 8, 2, (0, 0, 0), 8, 0) := by decide +kernel
set_option maxRecDepth 100000 in
theorem zk90_29 (n : Nat) : zex E (n + 1) d 90 29 [some (.ref c)] st h = zex E n d 90 31 [some (.ref c)] (.int 8 :: st) h := (zx1 zf90_29).trans (rfl)
set_option maxRecDepth 100000 in
theorem zf90_31 : zfetch 90 31 = some (.newarray .int, 2, (0, 0, 0), 0, 251) := by decide +kernel
set_option maxRecDepth 100000 in
theorem zk90_31 (n : Nat) : zex E (n + 1) d 90 31 [some (.ref c)] (.int 8 :: st) h = zex E n d 90 33 [some (.ref c)] (.ref h.1.length :: st) (zpush h (.inl (0, 8, [])) 8) := (zx1 zf90_31).trans (zna (K := fun s h => zex E n d 90 33 [some (.ref c)] s h) (h := h) (n := 8) (N := 8) (r := st) (by decide) (by decide))
set_option maxRecDepth 100000 in
theorem zf90_33 : zfetch 90 33 = some (.putfield 21, 3, (0, 3, 0), 0, 383) := by decide +kernel
set_option maxRecDepth 100000 in
theorem zk90_33 {b : Nat} {o : Option Nat} (hc : zat h.1 c = some (.inr (.inl (0, sl)))) (hs : zat sl 3 = some (some o)) (n : Nat) : zex E (n + 1) d 90 33 [some (.ref c)] [.ref b, .ref c] h = zex E n d 90 36 [some (.ref c)] [] (zsetS h c (.inr (.inl (0, zset sl 3 (some (some b)))))) := (zx1 zf90_33).trans (zpr (K := fun s h => zex E n d 90 36 [some (.ref c)] s h) (z := 0) hc hs)
set_option maxRecDepth 100000 in
theorem zf90_36 : zfetch 90 36 = some (.aload_n 0, 1, (0, 0, 0), 0, 0) := by decide +kernel
set_option maxRecDepth 100000 in
theorem zk90_36 (n : Nat) : zex E (n + 1) d 90 36 [some (.ref c)] st h = zex E n d 90 37 [some (.ref c)] (.ref c :: st) h := (zx1 zf90_36).trans (rfl)
set_option maxRecDepth 100000 in
theorem zf90_37 : zfetch 90 37 = some (.bipush 96, 2, (0, 0, 0), 96, 0) := by decide +kernel
set_option maxRecDepth 100000 in
theorem zk90_37 (n : Nat) : zex E (n + 1) d 90 37 [some (.ref c)] st h = zex E n d 90 39 [some (.ref c)] (.int 96 :: st) h := (zx1 zf90_37).trans (rfl)
set_option maxRecDepth 100000 in
theorem zf90_39 : zfetch 90 39 = some (.newarray .int, 2, (0, 0, 0), 0, 251) := by decide +kernel
set_option maxRecDepth 100000 in
theorem zk90_39 (n : Nat) : zex E (n + 1) d 90 39 [some (.ref c)] (.int 96 :: st) h = zex E n d 90 41 [some (.ref c)] (.ref h.1.length :: st) (zpush h (.inl (0, 96, [])) 96) := (zx1 zf90_39).trans (zna (K := fun s h => zex E n d 90 41 [some (.ref c)] s h) (h := h) (n := 96) (N := 96) (r := st) (by decide) (by decide))
set_option maxRecDepth 100000 in
theorem zf90_41 : zfetch 90 41 = some (.putfield 24, 3, (0, 4, 0), 0, 387) := by decide +kernel
set_option maxRecDepth 100000 in
theorem zk90_41 {b : Nat} {o : Option Nat} (hc : zat h.1 c = some (.inr (.inl (0, sl)))) (hs : zat sl 4 = some (some o)) (n : Nat) : zex E (n + 1) d 90 41 [some (.ref c)] [.ref b, .ref c] h = zex E n d 90 44 [some (.ref c)] [] (zsetS h c (.inr (.inl (0, zset sl 4 (some (some b)))))) := (zx1 zf90_41).trans (zpr (K := fun s h => zex E n d 90 44 [some (.ref c)] s h) (z := 0) hc hs)
set_option maxRecDepth 100000 in
theorem zf90_44 : zfetch 90 44 = some (.aload_n 0, 1, (0, 0, 0), 0, 0) := by decide +kernel
set_option maxRecDepth 100000 in
theorem zk90_44 (n : Nat) : zex E (n + 1) d 90 44 [some (.ref c)] st h = zex E n d 90 45 [some (.ref c)] (.ref c :: st) h := (zx1 zf90_44).trans (rfl)
set_option maxRecDepth 100000 in
theorem zf90_45 : zfetch 90 45 = some (.bipush 64, 2, (0, 0, 0), 64, 0) := by decide +kernel
set_option maxRecDepth 100000 in
theorem zk90_45 (n : Nat) : zex E (n + 1) d 90 45 [some (.ref c)] st h = zex E n d 90 47 [some (.ref c)] (.int 64 :: st) h := (zx1 zf90_45).trans (rfl)
set_option maxRecDepth 100000 in
theorem zf90_47 : zfetch 90 47 = some (.newarray .int, 2, (0, 0, 0), 0, 251) := by decide +kernel
set_option maxRecDepth 100000 in
theorem zk90_47 (n : Nat) : zex E (n + 1) d 90 47 [some (.ref c)] (.int 64 :: st) h = zex E n d 90 49 [some (.ref c)] (.ref h.1.length :: st) (zpush h (.inl (0, 64, [])) 64) := (zx1 zf90_47).trans (zna (K := fun s h => zex E n d 90 49 [some (.ref c)] s h) (h := h) (n := 64) (N := 64) (r := st) (by decide) (by decide))
set_option maxRecDepth 100000 in
theorem zf90_49 : zfetch 90 49 = some (.putfield 27, 3, (0, 5, 0), 0, 390) := by decide +kernel
set_option maxRecDepth 100000 in
theorem zk90_49 {b : Nat} {o : Option Nat} (hc : zat h.1 c = some (.inr (.inl (0, sl)))) (hs : zat sl 5 = some (some o)) (n : Nat) : zex E (n + 1) d 90 49 [some (.ref c)] [.ref b, .ref c] h = zex E n d 90 52 [some (.ref c)] [] (zsetS h c (.inr (.inl (0, zset sl 5 (some (some b)))))) := (zx1 zf90_49).trans (zpr (K := fun s h => zex E n d 90 52 [some (.ref c)] s h) (z := 0) hc hs)
set_option maxRecDepth 100000 in
theorem zf90_52 : zfetch 90 52 = some (.aload_n 0, 1, (0, 0, 0), 0, 0) := by decide +kernel
set_option maxRecDepth 100000 in
theorem zk90_52 (n : Nat) : zex E (n + 1) d 90 52 [some (.ref c)] st h = zex E n d 90 53 [some (.ref c)] (.ref c :: st) h := (zx1 zf90_52).trans (rfl)
set_option maxRecDepth 100000 in
theorem zf90_53 : zfetch 90 53 = some (.iconst 0, 1, (0, 0, 0), 0, 0) := by decide +kernel
set_option maxRecDepth 100000 in
theorem zk90_53 (n : Nat) : zex E (n + 1) d 90 53 [some (.ref c)] st h = zex E n d 90 54 [some (.ref c)] (.int 0 :: st) h := (zx1 zf90_53).trans (rfl)
set_option maxRecDepth 100000 in
theorem zf90_54 : zfetch 90 54 = some (.putfield 30, 3, (0, 6, 0), 0, 392) := by decide +kernel
set_option maxRecDepth 100000 in
theorem zk90_54 (hc : zat h.1 c = some (.inr (.inl (0, sl)))) (hs : zat sl 6 = some none) (n : Nat) : zex E (n + 1) d 90 54 [some (.ref c)] [.int 0, .ref c] h = zex E n d 90 57 [some (.ref c)] [] (zsetI h c (upd (h.2.1 c) 6 0)) := (zx1 zf90_54).trans (zpi (K := fun s h => zex E n d 90 57 [some (.ref c)] s h) hc hs)
set_option maxRecDepth 100000 in
theorem zf90_57 : zfetch 90 57 = some (.aload_n 0, 1, (0, 0, 0), 0, 0) := by decide +kernel
set_option maxRecDepth 100000 in
theorem zk90_57 (n : Nat) : zex E (n + 1) d 90 57 [some (.ref c)] st h = zex E n d 90 58 [some (.ref c)] (.ref c :: st) h := (zx1 zf90_57).trans (rfl)
set_option maxRecDepth 100000 in
theorem zf90_58 : zfetch 90 58 = some (.iconst 0, 1, (0, 0, 0), 0, 0) := by decide +kernel
set_option maxRecDepth 100000 in
theorem zk90_58 (n : Nat) : zex E (n + 1) d 90 58 [some (.ref c)] st h = zex E n d 90 59 [some (.ref c)] (.int 0 :: st) h := (zx1 zf90_58).trans (rfl)
set_option maxRecDepth 100000 in
theorem zf90_59 : zfetch 90 59 = some (.putfield 34, 3, (0, 7, 0), 0, 395) := by decide +kernel
set_option maxRecDepth 100000 in
theorem zk90_59 (hc : zat h.1 c = some (.inr (.inl (0, sl)))) (hs : zat sl 7 = some none) (n : Nat) : zex E (n + 1) d 90 59 [some (.ref c)] [.int 0, .ref c] h = zex E n d 90 62 [some (.ref c)] [] (zsetI h c (upd (h.2.1 c) 7 0)) := (zx1 zf90_59).trans (zpi (K := fun s h => zex E n d 90 62 [some (.ref c)] s h) hc hs)
set_option maxRecDepth 100000 in
theorem zf90_62 : zfetch 90 62 = some (.aload_n 0, 1, (0, 0, 0), 0, 0) := by decide +kernel
set_option maxRecDepth 100000 in
theorem zk90_62 (n : Nat) : zex E (n + 1) d 90 62 [some (.ref c)] st h = zex E n d 90 63 [some (.ref c)] (.ref c :: st) h := (zx1 zf90_62).trans (rfl)
set_option maxRecDepth 100000 in
theorem zf90_63 : zfetch 90 63 = some (.iconst 0, 1, (0, 0, 0), 0, 0) := by decide +kernel
set_option maxRecDepth 100000 in
theorem zk90_63 (n : Nat) : zex E (n + 1) d 90 63 [some (.ref c)] st h = zex E n d 90 64 [some (.ref c)] (.int 0 :: st) h := (zx1 zf90_63).trans (rfl)
set_option maxRecDepth 100000 in
theorem zf90_64 : zfetch 90 64 = some (.putfield 37, 3, (0, 8, 0), 0, 397) := by decide +kernel
set_option maxRecDepth 100000 in
theorem zk90_64 (hc : zat h.1 c = some (.inr (.inl (0, sl)))) (hs : zat sl 8 = some none) (n : Nat) : zex E (n + 1) d 90 64 [some (.ref c)] [.int 0, .ref c] h = zex E n d 90 67 [some (.ref c)] [] (zsetI h c (upd (h.2.1 c) 8 0)) := (zx1 zf90_64).trans (zpi (K := fun s h => zex E n d 90 67 [some (.ref c)] s h) hc hs)
set_option maxRecDepth 100000 in
theorem zf90_67 : zfetch 90 67 = some (.aload_n 0, 1, (0, 0, 0), 0, 0) := by decide +kernel
set_option maxRecDepth 100000 in
theorem zk90_67 (n : Nat) : zex E (n + 1) d 90 67 [some (.ref c)] st h = zex E n d 90 68 [some (.ref c)] (.ref c :: st) h := (zx1 zf90_67).trans (rfl)
set_option maxRecDepth 100000 in
theorem zf90_68 : zfetch 90 68 = some (.sipush 1000, 3, (0, 0, 0), 1000, 0) := by decide +kernel
set_option maxRecDepth 100000 in
theorem zk90_68 (n : Nat) : zex E (n + 1) d 90 68 [some (.ref c)] st h = zex E n d 90 71 [some (.ref c)] (.int 1000 :: st) h := (zx1 zf90_68).trans (rfl)
set_option maxRecDepth 100000 in
theorem zf90_71 : zfetch 90 71 = some (.putfield 40, 3, (0, 9, 0), 0, 401) := by decide +kernel
set_option maxRecDepth 100000 in
theorem zk90_71 (hc : zat h.1 c = some (.inr (.inl (0, sl)))) (hs : zat sl 9 = some none) (n : Nat) : zex E (n + 1) d 90 71 [some (.ref c)] [.int 1000, .ref c] h = zex E n d 90 74 [some (.ref c)] [] (zsetI h c (upd (h.2.1 c) 9 1000)) := (zx1 zf90_71).trans (zpi (K := fun s h => zex E n d 90 74 [some (.ref c)] s h) hc hs)
set_option maxRecDepth 100000 in
theorem zf90_74 : zfetch 90 74 = some (.aload_n 0, 1, (0, 0, 0), 0, 0) := by decide +kernel
set_option maxRecDepth 100000 in
theorem zk90_74 (n : Nat) : zex E (n + 1) d 90 74 [some (.ref c)] st h = zex E n d 90 75 [some (.ref c)] (.ref c :: st) h := (zx1 zf90_74).trans (rfl)
set_option maxRecDepth 100000 in
theorem zf90_75 : zfetch 90 75 = some (.iconst 0, 1, (0, 0, 0), 0, 0) := by decide +kernel
set_option maxRecDepth 100000 in
theorem zk90_75 (n : Nat) : zex E (n + 1) d 90 75 [some (.ref c)] st h = zex E n d 90 76 [some (.ref c)] (.int 0 :: st) h := (zx1 zf90_75).trans (rfl)
set_option maxRecDepth 100000 in
theorem zf90_76 : zfetch 90 76 = some (.putfield 43, 3, (0, 10, 0), 0, 406) := by decide +kernel
set_option maxRecDepth 100000 in
theorem zk90_76 (hc : zat h.1 c = some (.inr (.inl (0, sl)))) (hs : zat sl 10 = some none) (n : Nat) : zex E (n + 1) d 90 76 [some (.ref c)] [.int 0, .ref c] h = zex E n d 90 79 [some (.ref c)] [] (zsetI h c (upd (h.2.1 c) 10 0)) := (zx1 zf90_76).trans (zpi (K := fun s h => zex E n d 90 79 [some (.ref c)] s h) hc hs)
set_option maxRecDepth 100000 in
theorem zf90_79 : zfetch 90 79 = some (.aload_n 0, 1, (0, 0, 0), 0, 0) := by decide +kernel
set_option maxRecDepth 100000 in
theorem zk90_79 (n : Nat) : zex E (n + 1) d 90 79 [some (.ref c)] st h = zex E n d 90 80 [some (.ref c)] (.ref c :: st) h := (zx1 zf90_79).trans (rfl)
set_option maxRecDepth 100000 in
theorem zf90_80 : zfetch 90 80 = some (.iconst 0, 1, (0, 0, 0), 0, 0) := by decide +kernel
set_option maxRecDepth 100000 in
theorem zk90_80 (n : Nat) : zex E (n + 1) d 90 80 [some (.ref c)] st h = zex E n d 90 81 [some (.ref c)] (.int 0 :: st) h := (zx1 zf90_80).trans (rfl)
set_option maxRecDepth 100000 in
theorem zf90_81 : zfetch 90 81 = some (.putfield 46, 3, (0, 11, 0), 0, 409) := by decide +kernel
set_option maxRecDepth 100000 in
theorem zk90_81 (hc : zat h.1 c = some (.inr (.inl (0, sl)))) (hs : zat sl 11 = some none) (n : Nat) : zex E (n + 1) d 90 81 [some (.ref c)] [.int 0, .ref c] h = zex E n d 90 84 [some (.ref c)] [] (zsetI h c (upd (h.2.1 c) 11 0)) := (zx1 zf90_81).trans (zpi (K := fun s h => zex E n d 90 84 [some (.ref c)] s h) hc hs)
set_option maxRecDepth 100000 in
theorem zf90_84 : zfetch 90 84 = some (.aload_n 0, 1, (0, 0, 0), 0, 0) := by decide +kernel
set_option maxRecDepth 100000 in
theorem zk90_84 (n : Nat) : zex E (n + 1) d 90 84 [some (.ref c)] st h = zex E n d 90 85 [some (.ref c)] (.ref c :: st) h := (zx1 zf90_84).trans (rfl)
set_option maxRecDepth 100000 in
theorem zf90_85 : zfetch 90 85 = some (.iconst 1, 1, (0, 0, 0), 1, 0) := by decide +kernel
set_option maxRecDepth 100000 in
theorem zk90_85 (n : Nat) : zex E (n + 1) d 90 85 [some (.ref c)] st h = zex E n d 90 86 [some (.ref c)] (.int 1 :: st) h := (zx1 zf90_85).trans (rfl)
set_option maxRecDepth 100000 in
theorem zf90_86 : zfetch 90 86 = some (.putfield 49, 3, (0, 12, 0), 0, 411) := by decide +kernel
set_option maxRecDepth 100000 in
theorem zk90_86 (hc : zat h.1 c = some (.inr (.inl (0, sl)))) (hs : zat sl 12 = some none) (n : Nat) : zex E (n + 1) d 90 86 [some (.ref c)] [.int 1, .ref c] h = zex E n d 90 89 [some (.ref c)] [] (zsetI h c (upd (h.2.1 c) 12 1)) := (zx1 zf90_86).trans (zpi (K := fun s h => zex E n d 90 89 [some (.ref c)] s h) hc hs)
set_option maxRecDepth 100000 in
theorem zf90_89 : zfetch 90 89 = some (.return_, 1, (0, 0, 0), 0, 0) := by decide +kernel
set_option maxRecDepth 100000 in
theorem zk90_89 (n : Nat) : zex E (n + 1) d 90 89 [some (.ref c)] [] h = some (.inl none, h) := (zx1 zf90_89).trans rfl
end ZK90
set_option maxRecDepth 100000 in
theorem znw90 {E : zE} {d : Nat} {h : zH} : ∃ h1, zNW h 0 [some (some (h.1.length + 1 + 0)), some (some (h.1.length + 1 + 1)), some (some (h.1.length + 1 + 2)), some (some (h.1.length + 1 + 3)), some (some (h.1.length + 1 + 4)), some (some (h.1.length + 1 + 5)), none, none, none, none, none, none, none] [.inl (0, 12, []), .inl (0, 8, []), .inl (0, 8, []), .inl (0, 8, []), .inl (0, 96, []), .inl (0, 64, [])] 209 (upd (upd (upd (upd (upd (upd (upd (fun _ => 0) 6 0) 7 0) 8 0) 9 1000) 10 0) 11 0) 12 1) h1 ∧ ∀ n, zex E (n + 48) d 90 0 [some (.ref h.1.length)] [] (zpush h (.inr (.inl (0, [some none, some none, some none, some none, some none, some none, none, none, none, none, none, none, none]))) 13) = some (.inl none, h1) := by
  have w0 := znw_0 (h := h) (ci := 0) (n := 13) (sl := [some none, some none, some none, some none, some none, some none, none, none, none, none, none, none, none])
  have q0 := znw_c w0
  have w1 := znw_a w0 (N := 12) (fk := 0) (o := none) rfl
  have q1 := znw_c w1
  have w2 := znw_a w1 (N := 8) (fk := 1) (o := none) rfl
  have q2 := znw_c w2
  have w3 := znw_a w2 (N := 8) (fk := 2) (o := none) rfl
  have q3 := znw_c w3
  have w4 := znw_a w3 (N := 8) (fk := 3) (o := none) rfl
  have q4 := znw_c w4
  have w5 := znw_a w4 (N := 96) (fk := 4) (o := none) rfl
  have q5 := znw_c w5
  have w6 := znw_a w5 (N := 64) (fk := 5) (o := none) rfl
  have q6 := znw_c w6
  have w7 := znw_i w6 (fk := 6) (y := 0)
  have q7 := znw_c w7
  have w8 := znw_i w7 (fk := 7) (y := 0)
  have q8 := znw_c w8
  have w9 := znw_i w8 (fk := 8) (y := 0)
  have q9 := znw_c w9
  have w10 := znw_i w9 (fk := 9) (y := 1000)
  have q10 := znw_c w10
  have w11 := znw_i w10 (fk := 10) (y := 0)
  have q11 := znw_c w11
  have w12 := znw_i w11 (fk := 11) (y := 0)
  have q12 := znw_c w12
  have w13 := znw_i w12 (fk := 12) (y := 1)
  have q13 := znw_c w13
  refine ⟨_, w13, fun n => ?_⟩
  exact (zk90_0 (n + 47)).trans ((zk90_1 (n + 46)).trans ((zk90_4 (n + 45)).trans ((zk90_5 (n + 44)).trans ((zk90_7 (n + 43)).trans ((zk90_9 (zat_up q0) rfl (n + 42)).trans ((zk90_12 (n + 41)).trans ((zk90_13 (n + 40)).trans ((zk90_15 (n + 39)).trans ((zk90_17 (zat_up q1) rfl (n + 38)).trans ((zk90_20 (n + 37)).trans ((zk90_21 (n + 36)).trans ((zk90_23 (n + 35)).trans ((zk90_25 (zat_up q2) rfl (n + 34)).trans ((zk90_28 (n + 33)).trans ((zk90_29 (n + 32)).trans ((zk90_31 (n + 31)).trans ((zk90_33 (zat_up q3) rfl (n + 30)).trans ((zk90_36 (n + 29)).trans ((zk90_37 (n + 28)).trans ((zk90_39 (n + 27)).trans ((zk90_41 (zat_up q4) rfl (n + 26)).trans ((zk90_44 (n + 25)).trans ((zk90_45 (n + 24)).trans ((zk90_47 (n + 23)).trans ((zk90_49 (zat_up q5) rfl (n + 22)).trans ((zk90_52 (n + 21)).trans ((zk90_53 (n + 20)).trans ((zk90_54 q6 rfl (n + 19)).trans ((zk90_57 (n + 18)).trans ((zk90_58 (n + 17)).trans ((zk90_59 q7 rfl (n + 16)).trans ((zk90_62 (n + 15)).trans ((zk90_63 (n + 14)).trans ((zk90_64 q8 rfl (n + 13)).trans ((zk90_67 (n + 12)).trans ((zk90_68 (n + 11)).trans ((zk90_71 q9 rfl (n + 10)).trans ((zk90_74 (n + 9)).trans ((zk90_75 (n + 8)).trans ((zk90_76 q10 rfl (n + 7)).trans ((zk90_79 (n + 6)).trans ((zk90_80 (n + 5)).trans ((zk90_81 q11 rfl (n + 4)).trans ((zk90_84 (n + 3)).trans ((zk90_85 (n + 2)).trans ((zk90_86 q12 rfl (n + 1)).trans ((zk90_89 n))))))))))))))))))))))))))))))))))))))))))))))))
section ZK107
variable {E : zE} {d c : Nat} {h : zH} {sl : List (Option (Option Nat))} {st : List Value}
set_option maxRecDepth 100000 in
theorem zf107_0 : zfetch 107 0 = some (.aload_n 0, 1, (0, 0, 0), 0, 0) := by decide +kernel
set_option maxRecDepth 100000 in
theorem zk107_0 (n : Nat) : zex E (n + 1) d 107 0 [some (.ref c)] st h = zex E n d 107 1 [some (.ref c)] (.ref c :: st) h := (zx1 zf107_0).trans (rfl)
set_option maxRecDepth 100000 in
theorem zf107_1 : zfetch 107 1 = some (.invokespecial 3, 3, (1, 0, 0), 0, 446) := by decide +kernel
set_option maxRecDepth 100000 in
theorem zk107_1 (n : Nat) : zex E (n + 1) d 107 1 [some (.ref c)] [.ref c] h = zex E n d 107 4 [some (.ref c)] [] h := (zx1 zf107_1).trans (rfl)
set_option maxRecDepth 100000 in
theorem zf107_4 : zfetch 107 4 = some (.aload_n 0, 1, (0, 0, 0), 0, 0) := by decide +kernel
set_option maxRecDepth 100000 in
theorem zk107_4 (n : Nat) : zex E (n + 1) d 107 4 [some (.ref c)] st h = zex E n d 107 5 [some (.ref c)] (.ref c :: st) h := (zx1 zf107_4).trans (rfl)
set_option maxRecDepth 100000 in
theorem zf107_5 : zfetch 107 5 = some (.sipush 400, 3, (0, 0, 0), 400, 0) := by decide +kernel
set_option maxRecDepth 100000 in
theorem zk107_5 (n : Nat) : zex E (n + 1) d 107 5 [some (.ref c)] st h = zex E n d 107 8 [some (.ref c)] (.int 400 :: st) h := (zx1 zf107_5).trans (rfl)
set_option maxRecDepth 100000 in
theorem zf107_8 : zfetch 107 8 = some (.newarray .int, 2, (0, 0, 0), 0, 251) := by decide +kernel
set_option maxRecDepth 100000 in
theorem zk107_8 (n : Nat) : zex E (n + 1) d 107 8 [some (.ref c)] (.int 400 :: st) h = zex E n d 107 10 [some (.ref c)] (.ref h.1.length :: st) (zpush h (.inl (0, 400, [])) 400) := (zx1 zf107_8).trans (zna (K := fun s h => zex E n d 107 10 [some (.ref c)] s h) (h := h) (n := 400) (N := 400) (r := st) (by decide) (by decide))
set_option maxRecDepth 100000 in
theorem zf107_10 : zfetch 107 10 = some (.putfield 11, 3, (1, 0, 0), 0, 447) := by decide +kernel
set_option maxRecDepth 100000 in
theorem zk107_10 {b : Nat} {o : Option Nat} (hc : zat h.1 c = some (.inr (.inl (1, sl)))) (hs : zat sl 0 = some (some o)) (n : Nat) : zex E (n + 1) d 107 10 [some (.ref c)] [.ref b, .ref c] h = zex E n d 107 13 [some (.ref c)] [] (zsetS h c (.inr (.inl (1, zset sl 0 (some (some b)))))) := (zx1 zf107_10).trans (zpr (K := fun s h => zex E n d 107 13 [some (.ref c)] s h) (z := 0) hc hs)
set_option maxRecDepth 100000 in
theorem zf107_13 : zfetch 107 13 = some (.aload_n 0, 1, (0, 0, 0), 0, 0) := by decide +kernel
set_option maxRecDepth 100000 in
theorem zk107_13 (n : Nat) : zex E (n + 1) d 107 13 [some (.ref c)] st h = zex E n d 107 14 [some (.ref c)] (.ref c :: st) h := (zx1 zf107_13).trans (rfl)
set_option maxRecDepth 100000 in
theorem zf107_14 : zfetch 107 14 = some (.iconst 0, 1, (0, 0, 0), 0, 0) := by decide +kernel
set_option maxRecDepth 100000 in
theorem zk107_14 (n : Nat) : zex E (n + 1) d 107 14 [some (.ref c)] st h = zex E n d 107 15 [some (.ref c)] (.int 0 :: st) h := (zx1 zf107_14).trans (rfl)
set_option maxRecDepth 100000 in
theorem zf107_15 : zfetch 107 15 = some (.putfield 15, 3, (1, 1, 0), 0, 448) := by decide +kernel
set_option maxRecDepth 100000 in
theorem zk107_15 (hc : zat h.1 c = some (.inr (.inl (1, sl)))) (hs : zat sl 1 = some none) (n : Nat) : zex E (n + 1) d 107 15 [some (.ref c)] [.int 0, .ref c] h = zex E n d 107 18 [some (.ref c)] [] (zsetI h c (upd (h.2.1 c) 1 0)) := (zx1 zf107_15).trans (zpi (K := fun s h => zex E n d 107 18 [some (.ref c)] s h) hc hs)
set_option maxRecDepth 100000 in
theorem zf107_18 : zfetch 107 18 = some (.aload_n 0, 1, (0, 0, 0), 0, 0) := by decide +kernel
set_option maxRecDepth 100000 in
theorem zk107_18 (n : Nat) : zex E (n + 1) d 107 18 [some (.ref c)] st h = zex E n d 107 19 [some (.ref c)] (.ref c :: st) h := (zx1 zf107_18).trans (rfl)
set_option maxRecDepth 100000 in
theorem zf107_19 : zfetch 107 19 = some (.iconst 0, 1, (0, 0, 0), 0, 0) := by decide +kernel
set_option maxRecDepth 100000 in
theorem zk107_19 (n : Nat) : zex E (n + 1) d 107 19 [some (.ref c)] st h = zex E n d 107 20 [some (.ref c)] (.int 0 :: st) h := (zx1 zf107_19).trans (rfl)
set_option maxRecDepth 100000 in
theorem zf107_20 : zfetch 107 20 = some (.putfield 19, 3, (1, 2, 0), 0, 450) := by decide +kernel
set_option maxRecDepth 100000 in
theorem zk107_20 (hc : zat h.1 c = some (.inr (.inl (1, sl)))) (hs : zat sl 2 = some none) (n : Nat) : zex E (n + 1) d 107 20 [some (.ref c)] [.int 0, .ref c] h = zex E n d 107 23 [some (.ref c)] [] (zsetI h c (upd (h.2.1 c) 2 0)) := (zx1 zf107_20).trans (zpi (K := fun s h => zex E n d 107 23 [some (.ref c)] s h) hc hs)
set_option maxRecDepth 100000 in
theorem zf107_23 : zfetch 107 23 = some (.return_, 1, (0, 0, 0), 0, 0) := by decide +kernel
set_option maxRecDepth 100000 in
theorem zk107_23 (n : Nat) : zex E (n + 1) d 107 23 [some (.ref c)] [] h = some (.inl none, h) := (zx1 zf107_23).trans rfl
end ZK107
set_option maxRecDepth 100000 in
theorem znw107 {E : zE} {d : Nat} {h : zH} : ∃ h1, zNW h 1 [some (some (h.1.length + 1 + 0)), none, none] [.inl (0, 400, [])] 403 (upd (upd (fun _ => 0) 1 0) 2 0) h1 ∧ ∀ n, zex E (n + 13) d 107 0 [some (.ref h.1.length)] [] (zpush h (.inr (.inl (1, [some none, none, none]))) 3) = some (.inl none, h1) := by
  have w0 := znw_0 (h := h) (ci := 1) (n := 3) (sl := [some none, none, none])
  have q0 := znw_c w0
  have w1 := znw_a w0 (N := 400) (fk := 0) (o := none) rfl
  have q1 := znw_c w1
  have w2 := znw_i w1 (fk := 1) (y := 0)
  have q2 := znw_c w2
  have w3 := znw_i w2 (fk := 2) (y := 0)
  have q3 := znw_c w3
  refine ⟨_, w3, fun n => ?_⟩
  exact (zk107_0 (n + 12)).trans ((zk107_1 (n + 11)).trans ((zk107_4 (n + 10)).trans ((zk107_5 (n + 9)).trans ((zk107_8 (n + 8)).trans ((zk107_10 (zat_up q0) rfl (n + 7)).trans ((zk107_13 (n + 6)).trans ((zk107_14 (n + 5)).trans ((zk107_15 q1 rfl (n + 4)).trans ((zk107_18 (n + 3)).trans ((zk107_19 (n + 2)).trans ((zk107_20 q2 rfl (n + 1)).trans ((zk107_23 n)))))))))))))
def zld (a b : List zS) : Decidable (a = b) := inferInstance
def zle (a b : List zS) : Bool := @decide (a = b) (zld a b)
set_option maxRecDepth 100000 in
theorem zle_s {a b : List zS} (h : zle a b = true) : a = b := @of_decide_eq_true _ (zld a b) h
def rfG (r : Nat) : List (Option Nat) := match bsG r with
  | .inl (_, _, rf) => rf
  | _ => []
def rfH (r : Nat) : List (Option Nat) := match bsH r with
  | .inl (_, _, rf) => rf
  | _ => []
def oPa : zS := .inr (.inl (7, [some (some 28), some (some 29), none, none]))
def oG (c : Nat) : zS := .inr (.inl (0, [some (some (c + 1 + 0)), some (some (c + 1 + 1)), some (some (c + 1 + 2)), some (some (c + 1 + 3)), some (some (c + 1 + 4)), some (some (c + 1 + 5)), none, none, none, none, none, none, none]))
def uG : List zS := [.inl (0, 12, []), .inl (0, 8, []), .inl (0, 8, []), .inl (0, 8, []), .inl (0, 96, []), .inl (0, 64, [])]
def oH (c : Nat) : zS := .inr (.inl (1, [some (some (c + 1 + 0)), none, none]))
def uH : List zS := [.inl (0, 400, [])]
def sh1 (r : Nat) : List zS := bsT r ++ oG (95 + 9 * r) :: uG
def sh2 (r : Nat) : List zS := zset (sh1 r) 28 (.inl (3, 12, zset (rfG r) r (some (95 + 9 * r))))
def sh3 (r : Nat) : List zS := sh2 r ++ oH (95 + 9 * r + 7) :: uH
def sh4 (r : Nat) : List zS := zset (sh3 r) 29 (.inl (4, 12, zset (rfH r) r (some (95 + 9 * r + 7))))
set_option maxRecDepth 100000 in
theorem shk_t : ∀ r : Nat, r < 12 → ((bsT r).length = 95 + 9 * r ∧ (sh2 r).length = 95 + 9 * r + 7) ∧ (zat (rfG r) r = some none ∧ zat (rfH r) r = some none) ∧ (zse (zat (bsT r) 27) (some oPa) = true ∧ zse (zat (bsT r) 28) (some (.inl (3, 12, rfG r))) = true) ∧ zse (zat (sh1 r) 28) (some (.inl (3, 12, rfG r))) = true ∧
  (zse (zat (sh2 r) 27) (some oPa) = true ∧ zse (zat (sh2 r) 29) (some (.inl (4, 12, rfH r))) = true) ∧ zse (zat (sh3 r) 29) (some (.inl (4, 12, rfH r))) = true ∧ zle (sh4 r) (bsT (r + 1)) = true := by decide +kernel
set_option maxRecDepth 100000 in
theorem bst27 : ∀ r : Nat, r < 13 → zse (zat (bsT r) 27) (some oPa) = true := by decide +kernel
def pvv (j k : Nat) : Int := if j = 0 then (if k = 9 then 1000 else if k = 12 then 1 else 0) else 0
set_option maxRecDepth 100000 in
theorem pvb_t : ∀ r : Nat, r < 12 → ∀ j : Nat, j < 9 → ∀ k : Nat, k < 13 → (biv (95 + 9 * r + j) k).1 ≤ pvv j k ∧ pvv j k ≤ (biv (95 + 9 * r + j) k).2 := by decide +kernel
noncomputable def pvf (c : Nat) : Bool := match bg2 ivt c with
  | some (0, _) => true
  | some (1, l) => Nat.ble l.length 13
  | _ => false
set_option maxRecDepth 100000 in
theorem pvf_t : ∀ r : Nat, r < 12 → ∀ j : Nat, j < 9 → pvf (95 + 9 * r + j) = true := by decide +kernel
set_option maxRecDepth 100000 in
theorem agd_no {α : Type} {d : α} : ∀ {l : List α} {n : Nat}, l.length ≤ n → agd d l n = d
  | [], _, _ => rfl
  | _ :: l, 0, h => absurd h (by simp)
  | _ :: l, n + 1, h => agd_no (l := l) (Nat.le_of_succ_le_succ h)
set_option maxRecDepth 100000 in
theorem pvf_s {c k : Nat} (h : pvf c = true) (hk : 13 ≤ k) : biv c k = biv c 12 ∨ biv c k = (-2147483648, 2147483647) := by
  unfold pvf at h
  unfold biv
  split at h
  · rename_i l hz
    rw [hz]
    exact Or.inl rfl
  · rename_i l hz
    rw [hz]
    exact Or.inr (agd_no (Nat.le_trans (Nat.le_of_ble_eq_true h) hk))
  · cases h
set_option maxRecDepth 100000 in
theorem pvz_t : ∀ r : Nat, r < 12 → ∀ j : Nat, j < 9 → (biv (95 + 9 * r + j) 12).1 ≤ 0 ∧ 0 ≤ (biv (95 + 9 * r + j) 12).2 := by decide +kernel
set_option maxRecDepth 100000 in
theorem pvb {r j k : Nat} (hr : r < 12) (hj : j < 9) : (biv (95 + 9 * r + j) k).1 ≤ pvv j k ∧ pvv j k ≤ (biv (95 + 9 * r + j) k).2 := by
  by_cases hk : k < 13
  · exact pvb_t r hr j hj k hk
  · have h0 : pvv j k = 0 := by
      unfold pvv
      rw [if_neg (show ¬ k = 9 by omega), if_neg (show ¬ k = 12 by omega)]
      split <;> rfl
    rcases pvf_s (pvf_t r hr j hj) (show 13 ≤ k by omega) with h | h
    · rw [h0, h]
      exact pvz_t r hr j hj
    · rw [h0, h]
      exact ⟨by decide, by decide⟩
noncomputable def pun (c : Nat) : Bool := match bg2 unt c with
  | some (0, u) => Nat.testBit sc169.2.1 u
  | _ => false
set_option maxRecDepth 100000 in
theorem pun_t : ∀ r : Nat, r < 12 → ∀ j : Nat, j < 9 → pun (95 + 9 * r + j) = true := by decide +kernel
set_option maxRecDepth 100000 in
theorem pun_s {c k : Nat} (h : pun c = true) : Nat.testBit sc169.2.1 (bun c k) = true := by
  unfold pun at h
  unfold bun
  split at h
  · rename_i u hz
    rw [hz]
    exact h
  · cases h

section ZKR
variable {E : zE} {d : Nat} {h : zH} {st : List Value}
set_option maxRecDepth 100000 in
theorem zf167_0 : zfetch 167 0 = some (.aload_n 0, 1, (0, 0, 0), 0, 0) := by decide +kernel
set_option maxRecDepth 100000 in
theorem zk167_0 (n : Nat) : zex E (n + 1) d 167 0 [some (.ref 27), some (.ref 18), some (.ref 25)] st h = zex E n d 167 1 [some (.ref 27), some (.ref 18), some (.ref 25)] (.ref 27 :: st) h := (zx1 zf167_0).trans (rfl)
set_option maxRecDepth 100000 in
theorem zf167_1 : zfetch 167 1 = some (.getfield 11, 3, (7, 0, 0), 0, 468) := by decide +kernel
set_option maxRecDepth 100000 in
theorem zk167_1 (hP : zat h.1 27 = some (.inr (.inl (7, [some (some 28), some (some 29), none, none])))) (n : Nat) : zex E (n + 1) d 167 1 [some (.ref 27), some (.ref 18), some (.ref 25)] (.ref 27 :: st) h = zex E n d 167 4 [some (.ref 27), some (.ref 18), some (.ref 25)] (.ref 28 :: st) h := (zx1 zf167_1).trans (zget_r (K := fun s => zex E n d 167 4 [some (.ref 27), some (.ref 18), some (.ref 25)] s h) hP rfl)
set_option maxRecDepth 100000 in
theorem zf167_4 : zfetch 167 4 = some (.aload_n 0, 1, (0, 0, 0), 0, 0) := by decide +kernel
set_option maxRecDepth 100000 in
theorem zk167_4 (n : Nat) : zex E (n + 1) d 167 4 [some (.ref 27), some (.ref 18), some (.ref 25)] st h = zex E n d 167 5 [some (.ref 27), some (.ref 18), some (.ref 25)] (.ref 27 :: st) h := (zx1 zf167_4).trans (rfl)
set_option maxRecDepth 100000 in
theorem zf167_5 : zfetch 167 5 = some (.getfield 25, 3, (7, 3, 0), 0, 472) := by decide +kernel
set_option maxRecDepth 100000 in
theorem zk167_5 (hP : zat h.1 27 = some (.inr (.inl (7, [some (some 28), some (some 29), none, none])))) (n : Nat) : zex E (n + 1) d 167 5 [some (.ref 27), some (.ref 18), some (.ref 25)] (.ref 27 :: st) h = zex E n d 167 8 [some (.ref 27), some (.ref 18), some (.ref 25)] (.int (h.2.1 27 3) :: st) h := (zx1 zf167_5).trans (zget_n (K := fun s => zex E n d 167 8 [some (.ref 27), some (.ref 18), some (.ref 25)] s h) hP rfl)
set_option maxRecDepth 100000 in
theorem zf167_8 : zfetch 167 8 = some (.aaload, 1, (0, 0, 0), 0, 0) := by decide +kernel
set_option maxRecDepth 100000 in
theorem zk167_8 {x : Int32} {r : Nat} {rf : List (Option Nat)} (hA : zat h.1 28 = some (.inl (3, 12, rf))) (hx : x.toInt = (r : Int)) (hr : r < 12) (hz : zat rf r = some none) (n : Nat) : zex E (n + 1) d 167 8 [some (.ref 27), some (.ref 18), some (.ref 25)] (.int x :: .ref 28 :: st) h = zex E n d 167 9 [some (.ref 27), some (.ref 18), some (.ref 25)] (.null :: st) h := (zx1 zf167_8).trans (zaldA_n (K := fun s => zex E n d 167 9 [some (.ref 27), some (.ref 18), some (.ref 25)] s h) hA rfl hx hr hz)
set_option maxRecDepth 100000 in
theorem zf167_9 : zfetch 167 9 = some (.ifnonnull 19, 3, (28, 0, 0), 0, 0) := by decide +kernel
set_option maxRecDepth 100000 in
theorem zk167_9 (n : Nat) : zex E (n + 1) d 167 9 [some (.ref 27), some (.ref 18), some (.ref 25)] [.null] h = zex E n d 167 12 [some (.ref 27), some (.ref 18), some (.ref 25)] [] h := (zx1 zf167_9).trans (rfl)
set_option maxRecDepth 100000 in
theorem zf167_12 : zfetch 167 12 = some (.aload_n 0, 1, (0, 0, 0), 0, 0) := by decide +kernel
set_option maxRecDepth 100000 in
theorem zk167_12 (n : Nat) : zex E (n + 1) d 167 12 [some (.ref 27), some (.ref 18), some (.ref 25)] st h = zex E n d 167 13 [some (.ref 27), some (.ref 18), some (.ref 25)] (.ref 27 :: st) h := (zx1 zf167_12).trans (rfl)
set_option maxRecDepth 100000 in
theorem zf167_13 : zfetch 167 13 = some (.getfield 11, 3, (7, 0, 0), 0, 468) := by decide +kernel
set_option maxRecDepth 100000 in
theorem zk167_13 (hP : zat h.1 27 = some (.inr (.inl (7, [some (some 28), some (some 29), none, none])))) (n : Nat) : zex E (n + 1) d 167 13 [some (.ref 27), some (.ref 18), some (.ref 25)] (.ref 27 :: st) h = zex E n d 167 16 [some (.ref 27), some (.ref 18), some (.ref 25)] (.ref 28 :: st) h := (zx1 zf167_13).trans (zget_r (K := fun s => zex E n d 167 16 [some (.ref 27), some (.ref 18), some (.ref 25)] s h) hP rfl)
set_option maxRecDepth 100000 in
theorem zf167_16 : zfetch 167 16 = some (.aload_n 0, 1, (0, 0, 0), 0, 0) := by decide +kernel
set_option maxRecDepth 100000 in
theorem zk167_16 (n : Nat) : zex E (n + 1) d 167 16 [some (.ref 27), some (.ref 18), some (.ref 25)] st h = zex E n d 167 17 [some (.ref 27), some (.ref 18), some (.ref 25)] (.ref 27 :: st) h := (zx1 zf167_16).trans (rfl)
set_option maxRecDepth 100000 in
theorem zf167_17 : zfetch 167 17 = some (.getfield 25, 3, (7, 3, 0), 0, 472) := by decide +kernel
set_option maxRecDepth 100000 in
theorem zk167_17 (hP : zat h.1 27 = some (.inr (.inl (7, [some (some 28), some (some 29), none, none])))) (n : Nat) : zex E (n + 1) d 167 17 [some (.ref 27), some (.ref 18), some (.ref 25)] (.ref 27 :: st) h = zex E n d 167 20 [some (.ref 27), some (.ref 18), some (.ref 25)] (.int (h.2.1 27 3) :: st) h := (zx1 zf167_17).trans (zget_n (K := fun s => zex E n d 167 20 [some (.ref 27), some (.ref 18), some (.ref 25)] s h) hP rfl)
set_option maxRecDepth 100000 in
theorem zf167_20 : zfetch 167 20 = some (.new 9, 3, (0, 0, 0), 0, 464) := by decide +kernel
set_option maxRecDepth 100000 in
theorem zk167_20 (n : Nat) : zex E (n + 1) d 167 20 [some (.ref 27), some (.ref 18), some (.ref 25)] st h = zex E n d 167 23 [some (.ref 27), some (.ref 18), some (.ref 25)] (.ref h.1.length :: st) (zpush h (.inr (.inl (0, [some none, some none, some none, some none, some none, some none, none, none, none, none, none, none, none]))) 13) := (zx1 zf167_20).trans (rfl)
set_option maxRecDepth 100000 in
theorem zf167_23 : zfetch 167 23 = some (.dup, 1, (0, 0, 0), 0, 0) := by decide +kernel
set_option maxRecDepth 100000 in
theorem zk167_23 {b : Nat} (n : Nat) : zex E (n + 1) d 167 23 [some (.ref 27), some (.ref 18), some (.ref 25)] (.ref b :: st) h = zex E n d 167 24 [some (.ref 27), some (.ref 18), some (.ref 25)] (.ref b :: .ref b :: st) h := (zx1 zf167_23).trans (rfl)
set_option maxRecDepth 100000 in
theorem zf167_24 : zfetch 167 24 = some (.invokespecial 28, 3, (0, 90, 1), 0, 1250) := by decide +kernel
set_option maxRecDepth 100000 in
theorem zk167_24 {b : Nat} {x : Int32} {h1 : zH} {sl : List (Option (Option Nat))} (hb : zat h.1 b = some (.inr (.inl (0, sl)))) (hc : ∀ n, zex E (n + 48) d 90 0 [some (.ref b)] [] h = some (.inl none, h1)) (n : Nat) : zex E (n + 48 + 1) (d + 1) 167 24 [some (.ref 27), some (.ref 18), some (.ref 25)] [.ref b, .ref b, .int x, .ref 28] h = zex E (n + 48) (d + 1) 167 27 [some (.ref 27), some (.ref 18), some (.ref 25)] [.ref b, .int x, .ref 28] h1 := by
  refine (zx1 zf167_24).trans ?_
  exact zinv_1 (ih := zex E (n + 48)) (nx := zex E (n + 48) (d + 1) 167 27) (mi := 167) (pc := 24) (tx := false) (ls := [some (.ref 27), some (.ref 18), some (.ref 25)]) (r := [.ref b, .int x, .ref 28]) zmi90 hb rfl (hc n)
set_option maxRecDepth 100000 in
theorem zf167_27 : zfetch 167 27 = some (.aastore, 1, (0, 0, 0), 0, 0) := by decide +kernel
set_option maxRecDepth 100000 in
theorem zk167_27 {b : Nat} {x : Int32} {r : Nat} {rf : List (Option Nat)} {sl : List (Option (Option Nat))} (hA : zat h.1 28 = some (.inl (3, 12, rf))) (hx : x.toInt = (r : Int)) (hr : r < 12) (hb : zat h.1 b = some (.inr (.inl (0, sl)))) (n : Nat) : zex E (n + 1) d 167 27 [some (.ref 27), some (.ref 18), some (.ref 25)] [.ref b, .int x, .ref 28] h = zex E n d 167 28 [some (.ref 27), some (.ref 18), some (.ref 25)] [] (zsetS h 28 (.inl (3, 12, zset rf r (some b)))) := (zx1 zf167_27).trans (zastA_n (K := fun s h => zex E n d 167 28 [some (.ref 27), some (.ref 18), some (.ref 25)] s h) hA rfl hx hr hb rfl)
set_option maxRecDepth 100000 in
theorem zmk0 {r : Nat} {rf : List (Option Nat)} {sl : List (Option (Option Nat))} {h1 : zH} (hP : zat h.1 27 = some (.inr (.inl (7, [some (some 28), some (some 29), none, none])))) (hA : zat h.1 28 = some (.inl (3, 12, rf))) (hx : (h.2.1 27 3).toInt = (r : Int)) (hr : r < 12) (hz : zat rf r = some none) (hc : ∀ n, zex E (n + 48) d 90 0 [some (.ref h.1.length)] [] (zpush h (.inr (.inl (0, [some none, some none, some none, some none, some none, some none, none, none, none, none, none, none, none]))) 13) = some (.inl none, h1)) (hA1 : zat h1.1 28 = some (.inl (3, 12, rf))) (hb : zat h1.1 h.1.length = some (.inr (.inl (0, sl)))) (n : Nat) : zex E (n + 62) (d + 1) 167 0 [some (.ref 27), some (.ref 18), some (.ref 25)] [] h = zex E (n + 48) (d + 1) 167 28 [some (.ref 27), some (.ref 18), some (.ref 25)] [] (zsetS h1 28 (.inl (3, 12, zset rf r (some h.1.length)))) := (zk167_0  (n + 61)).trans ((zk167_1 hP (n + 60)).trans ((zk167_4  (n + 59)).trans ((zk167_5 hP (n + 58)).trans ((zk167_8 hA hx hr hz (n + 57)).trans ((zk167_9  (n + 56)).trans ((zk167_12  (n + 55)).trans ((zk167_13 hP (n + 54)).trans ((zk167_16  (n + 53)).trans ((zk167_17 hP (n + 52)).trans ((zk167_20  (n + 51)).trans ((zk167_23  (n + 50)).trans ((zk167_24 (sl := [some none, some none, some none, some none, some none, some none, none, none, none, none, none, none, none]) zat_app_at hc (n + 1)).trans (zk167_27 hA1 hx hr hb (n + 48))))))))))))))
set_option maxRecDepth 100000 in
theorem zf167_28 : zfetch 167 28 = some (.aload_n 0, 1, (0, 0, 0), 0, 0) := by decide +kernel
set_option maxRecDepth 100000 in
theorem zk167_28 (n : Nat) : zex E (n + 1) d 167 28 [some (.ref 27), some (.ref 18), some (.ref 25)] st h = zex E n d 167 29 [some (.ref 27), some (.ref 18), some (.ref 25)] (.ref 27 :: st) h := (zx1 zf167_28).trans (rfl)
set_option maxRecDepth 100000 in
theorem zf167_29 : zfetch 167 29 = some (.getfield 17, 3, (7, 1, 0), 0, 469) := by decide +kernel
set_option maxRecDepth 100000 in
theorem zk167_29 (hP : zat h.1 27 = some (.inr (.inl (7, [some (some 28), some (some 29), none, none])))) (n : Nat) : zex E (n + 1) d 167 29 [some (.ref 27), some (.ref 18), some (.ref 25)] (.ref 27 :: st) h = zex E n d 167 32 [some (.ref 27), some (.ref 18), some (.ref 25)] (.ref 29 :: st) h := (zx1 zf167_29).trans (zget_r (K := fun s => zex E n d 167 32 [some (.ref 27), some (.ref 18), some (.ref 25)] s h) hP rfl)
set_option maxRecDepth 100000 in
theorem zf167_32 : zfetch 167 32 = some (.aload_n 0, 1, (0, 0, 0), 0, 0) := by decide +kernel
set_option maxRecDepth 100000 in
theorem zk167_32 (n : Nat) : zex E (n + 1) d 167 32 [some (.ref 27), some (.ref 18), some (.ref 25)] st h = zex E n d 167 33 [some (.ref 27), some (.ref 18), some (.ref 25)] (.ref 27 :: st) h := (zx1 zf167_32).trans (rfl)
set_option maxRecDepth 100000 in
theorem zf167_33 : zfetch 167 33 = some (.getfield 25, 3, (7, 3, 0), 0, 472) := by decide +kernel
set_option maxRecDepth 100000 in
theorem zk167_33 (hP : zat h.1 27 = some (.inr (.inl (7, [some (some 28), some (some 29), none, none])))) (n : Nat) : zex E (n + 1) d 167 33 [some (.ref 27), some (.ref 18), some (.ref 25)] (.ref 27 :: st) h = zex E n d 167 36 [some (.ref 27), some (.ref 18), some (.ref 25)] (.int (h.2.1 27 3) :: st) h := (zx1 zf167_33).trans (zget_n (K := fun s => zex E n d 167 36 [some (.ref 27), some (.ref 18), some (.ref 25)] s h) hP rfl)
set_option maxRecDepth 100000 in
theorem zf167_36 : zfetch 167 36 = some (.aaload, 1, (0, 0, 0), 0, 0) := by decide +kernel
set_option maxRecDepth 100000 in
theorem zk167_36 {x : Int32} {r : Nat} {rf : List (Option Nat)} (hA : zat h.1 29 = some (.inl (4, 12, rf))) (hx : x.toInt = (r : Int)) (hr : r < 12) (hz : zat rf r = some none) (n : Nat) : zex E (n + 1) d 167 36 [some (.ref 27), some (.ref 18), some (.ref 25)] (.int x :: .ref 29 :: st) h = zex E n d 167 37 [some (.ref 27), some (.ref 18), some (.ref 25)] (.null :: st) h := (zx1 zf167_36).trans (zaldA_n (K := fun s => zex E n d 167 37 [some (.ref 27), some (.ref 18), some (.ref 25)] s h) hA rfl hx hr hz)
set_option maxRecDepth 100000 in
theorem zf167_37 : zfetch 167 37 = some (.ifnonnull 19, 3, (56, 0, 0), 0, 0) := by decide +kernel
set_option maxRecDepth 100000 in
theorem zk167_37 (n : Nat) : zex E (n + 1) d 167 37 [some (.ref 27), some (.ref 18), some (.ref 25)] [.null] h = zex E n d 167 40 [some (.ref 27), some (.ref 18), some (.ref 25)] [] h := (zx1 zf167_37).trans (rfl)
set_option maxRecDepth 100000 in
theorem zf167_40 : zfetch 167 40 = some (.aload_n 0, 1, (0, 0, 0), 0, 0) := by decide +kernel
set_option maxRecDepth 100000 in
theorem zk167_40 (n : Nat) : zex E (n + 1) d 167 40 [some (.ref 27), some (.ref 18), some (.ref 25)] st h = zex E n d 167 41 [some (.ref 27), some (.ref 18), some (.ref 25)] (.ref 27 :: st) h := (zx1 zf167_40).trans (rfl)
set_option maxRecDepth 100000 in
theorem zf167_41 : zfetch 167 41 = some (.getfield 17, 3, (7, 1, 0), 0, 469) := by decide +kernel
set_option maxRecDepth 100000 in
theorem zk167_41 (hP : zat h.1 27 = some (.inr (.inl (7, [some (some 28), some (some 29), none, none])))) (n : Nat) : zex E (n + 1) d 167 41 [some (.ref 27), some (.ref 18), some (.ref 25)] (.ref 27 :: st) h = zex E n d 167 44 [some (.ref 27), some (.ref 18), some (.ref 25)] (.ref 29 :: st) h := (zx1 zf167_41).trans (zget_r (K := fun s => zex E n d 167 44 [some (.ref 27), some (.ref 18), some (.ref 25)] s h) hP rfl)
set_option maxRecDepth 100000 in
theorem zf167_44 : zfetch 167 44 = some (.aload_n 0, 1, (0, 0, 0), 0, 0) := by decide +kernel
set_option maxRecDepth 100000 in
theorem zk167_44 (n : Nat) : zex E (n + 1) d 167 44 [some (.ref 27), some (.ref 18), some (.ref 25)] st h = zex E n d 167 45 [some (.ref 27), some (.ref 18), some (.ref 25)] (.ref 27 :: st) h := (zx1 zf167_44).trans (rfl)
set_option maxRecDepth 100000 in
theorem zf167_45 : zfetch 167 45 = some (.getfield 25, 3, (7, 3, 0), 0, 472) := by decide +kernel
set_option maxRecDepth 100000 in
theorem zk167_45 (hP : zat h.1 27 = some (.inr (.inl (7, [some (some 28), some (some 29), none, none])))) (n : Nat) : zex E (n + 1) d 167 45 [some (.ref 27), some (.ref 18), some (.ref 25)] (.ref 27 :: st) h = zex E n d 167 48 [some (.ref 27), some (.ref 18), some (.ref 25)] (.int (h.2.1 27 3) :: st) h := (zx1 zf167_45).trans (zget_n (K := fun s => zex E n d 167 48 [some (.ref 27), some (.ref 18), some (.ref 25)] s h) hP rfl)
set_option maxRecDepth 100000 in
theorem zf167_48 : zfetch 167 48 = some (.new 15, 3, (0, 1, 0), 0, 466) := by decide +kernel
set_option maxRecDepth 100000 in
theorem zk167_48 (n : Nat) : zex E (n + 1) d 167 48 [some (.ref 27), some (.ref 18), some (.ref 25)] st h = zex E n d 167 51 [some (.ref 27), some (.ref 18), some (.ref 25)] (.ref h.1.length :: st) (zpush h (.inr (.inl (1, [some none, none, none]))) 3) := (zx1 zf167_48).trans (rfl)
set_option maxRecDepth 100000 in
theorem zf167_51 : zfetch 167 51 = some (.dup, 1, (0, 0, 0), 0, 0) := by decide +kernel
set_option maxRecDepth 100000 in
theorem zk167_51 {b : Nat} (n : Nat) : zex E (n + 1) d 167 51 [some (.ref 27), some (.ref 18), some (.ref 25)] (.ref b :: st) h = zex E n d 167 52 [some (.ref 27), some (.ref 18), some (.ref 25)] (.ref b :: .ref b :: st) h := (zx1 zf167_51).trans (rfl)
set_option maxRecDepth 100000 in
theorem zf167_52 : zfetch 167 52 = some (.invokespecial 29, 3, (0, 107, 1), 0, 1251) := by decide +kernel
set_option maxRecDepth 100000 in
theorem zk167_52 {b : Nat} {x : Int32} {h1 : zH} {sl : List (Option (Option Nat))} (hb : zat h.1 b = some (.inr (.inl (1, sl)))) (hc : ∀ n, zex E (n + 13) d 107 0 [some (.ref b)] [] h = some (.inl none, h1)) (n : Nat) : zex E (n + 13 + 1) (d + 1) 167 52 [some (.ref 27), some (.ref 18), some (.ref 25)] [.ref b, .ref b, .int x, .ref 29] h = zex E (n + 13) (d + 1) 167 55 [some (.ref 27), some (.ref 18), some (.ref 25)] [.ref b, .int x, .ref 29] h1 := by
  refine (zx1 zf167_52).trans ?_
  exact zinv_1 (ih := zex E (n + 13)) (nx := zex E (n + 13) (d + 1) 167 55) (mi := 167) (pc := 52) (tx := false) (ls := [some (.ref 27), some (.ref 18), some (.ref 25)]) (r := [.ref b, .int x, .ref 29]) zmi107 hb rfl (hc n)
set_option maxRecDepth 100000 in
theorem zf167_55 : zfetch 167 55 = some (.aastore, 1, (0, 0, 0), 0, 0) := by decide +kernel
set_option maxRecDepth 100000 in
theorem zk167_55 {b : Nat} {x : Int32} {r : Nat} {rf : List (Option Nat)} {sl : List (Option (Option Nat))} (hA : zat h.1 29 = some (.inl (4, 12, rf))) (hx : x.toInt = (r : Int)) (hr : r < 12) (hb : zat h.1 b = some (.inr (.inl (1, sl)))) (n : Nat) : zex E (n + 1) d 167 55 [some (.ref 27), some (.ref 18), some (.ref 25)] [.ref b, .int x, .ref 29] h = zex E n d 167 56 [some (.ref 27), some (.ref 18), some (.ref 25)] [] (zsetS h 29 (.inl (4, 12, zset rf r (some b)))) := (zx1 zf167_55).trans (zastA_n (K := fun s h => zex E n d 167 56 [some (.ref 27), some (.ref 18), some (.ref 25)] s h) hA rfl hx hr hb rfl)
set_option maxRecDepth 100000 in
theorem zmk28 {r : Nat} {rf : List (Option Nat)} {sl : List (Option (Option Nat))} {h1 : zH} (hP : zat h.1 27 = some (.inr (.inl (7, [some (some 28), some (some 29), none, none])))) (hA : zat h.1 29 = some (.inl (4, 12, rf))) (hx : (h.2.1 27 3).toInt = (r : Int)) (hr : r < 12) (hz : zat rf r = some none) (hc : ∀ n, zex E (n + 13) d 107 0 [some (.ref h.1.length)] [] (zpush h (.inr (.inl (1, [some none, none, none]))) 3) = some (.inl none, h1)) (hA1 : zat h1.1 29 = some (.inl (4, 12, rf))) (hb : zat h1.1 h.1.length = some (.inr (.inl (1, sl)))) (n : Nat) : zex E (n + 27) (d + 1) 167 28 [some (.ref 27), some (.ref 18), some (.ref 25)] [] h = zex E (n + 13) (d + 1) 167 56 [some (.ref 27), some (.ref 18), some (.ref 25)] [] (zsetS h1 29 (.inl (4, 12, zset rf r (some h.1.length)))) := (zk167_28  (n + 26)).trans ((zk167_29 hP (n + 25)).trans ((zk167_32  (n + 24)).trans ((zk167_33 hP (n + 23)).trans ((zk167_36 hA hx hr hz (n + 22)).trans ((zk167_37  (n + 21)).trans ((zk167_40  (n + 20)).trans ((zk167_41 hP (n + 19)).trans ((zk167_44  (n + 18)).trans ((zk167_45 hP (n + 17)).trans ((zk167_48  (n + 16)).trans ((zk167_51  (n + 15)).trans ((zk167_52 (sl := [some none, none, none]) zat_app_at hc (n + 1)).trans (zk167_55 hA1 hx hr hb (n + 13))))))))))))))
set_option maxRecDepth 100000 in
theorem zf167_82 : zfetch 167 82 = some (.aload_n 0, 1, (0, 0, 0), 0, 0) := by decide +kernel
set_option maxRecDepth 100000 in
theorem zk167_82 (n : Nat) : zex E (n + 1) d 167 82 [some (.ref 27), some (.ref 18), some (.ref 25)] st h = zex E n d 167 83 [some (.ref 27), some (.ref 18), some (.ref 25)] (.ref 27 :: st) h := (zx1 zf167_82).trans (rfl)
set_option maxRecDepth 100000 in
theorem zf167_83 : zfetch 167 83 = some (.aload_n 0, 1, (0, 0, 0), 0, 0) := by decide +kernel
set_option maxRecDepth 100000 in
theorem zk167_83 (n : Nat) : zex E (n + 1) d 167 83 [some (.ref 27), some (.ref 18), some (.ref 25)] st h = zex E n d 167 84 [some (.ref 27), some (.ref 18), some (.ref 25)] (.ref 27 :: st) h := (zx1 zf167_83).trans (rfl)
set_option maxRecDepth 100000 in
theorem zf167_84 : zfetch 167 84 = some (.getfield 25, 3, (7, 3, 0), 0, 472) := by decide +kernel
set_option maxRecDepth 100000 in
theorem zk167_84 (hP : zat h.1 27 = some (.inr (.inl (7, [some (some 28), some (some 29), none, none])))) (n : Nat) : zex E (n + 1) d 167 84 [some (.ref 27), some (.ref 18), some (.ref 25)] (.ref 27 :: st) h = zex E n d 167 87 [some (.ref 27), some (.ref 18), some (.ref 25)] (.int (h.2.1 27 3) :: st) h := (zx1 zf167_84).trans (zget_n (K := fun s => zex E n d 167 87 [some (.ref 27), some (.ref 18), some (.ref 25)] s h) hP rfl)
set_option maxRecDepth 100000 in
theorem zf167_87 : zfetch 167 87 = some (.iconst 1, 1, (0, 0, 0), 1, 0) := by decide +kernel
set_option maxRecDepth 100000 in
theorem zk167_87 (n : Nat) : zex E (n + 1) d 167 87 [some (.ref 27), some (.ref 18), some (.ref 25)] st h = zex E n d 167 88 [some (.ref 27), some (.ref 18), some (.ref 25)] (.int 1 :: st) h := (zx1 zf167_87).trans (rfl)
set_option maxRecDepth 100000 in
theorem zf167_88 : zfetch 167 88 = some (.iadd, 1, (0, 0, 0), 0, 0) := by decide +kernel
set_option maxRecDepth 100000 in
theorem zk167_88 {x : Int32} (n : Nat) : zex E (n + 1) d 167 88 [some (.ref 27), some (.ref 18), some (.ref 25)] (.int 1 :: .int x :: st) h = zex E n d 167 89 [some (.ref 27), some (.ref 18), some (.ref 25)] (.int (x + 1) :: st) h := (zx1 zf167_88).trans (rfl)
set_option maxRecDepth 100000 in
theorem zf167_89 : zfetch 167 89 = some (.bipush 12, 2, (0, 0, 0), 12, 0) := by decide +kernel
set_option maxRecDepth 100000 in
theorem zk167_89 (n : Nat) : zex E (n + 1) d 167 89 [some (.ref 27), some (.ref 18), some (.ref 25)] st h = zex E n d 167 91 [some (.ref 27), some (.ref 18), some (.ref 25)] (.int 12 :: st) h := (zx1 zf167_89).trans (rfl)
set_option maxRecDepth 100000 in
theorem zf167_91 : zfetch 167 91 = some (.if_icmp .ge 12, 3, (103, 0, 0), 0, 0) := by decide +kernel
set_option maxRecDepth 100000 in
theorem zk167_91a {x : Int32} (hx : 12 ≤ x) (n : Nat) : zex E (n + 1) d 167 91 [some (.ref 27), some (.ref 18), some (.ref 25)] (.int 12 :: .int x :: st) h = zex E n d 167 103 [some (.ref 27), some (.ref 18), some (.ref 25)] st h := (zx1 zf167_91).trans (if_pos hx)
set_option maxRecDepth 100000 in
theorem zk167_91b {x : Int32} (hx : ¬ 12 ≤ x) (n : Nat) : zex E (n + 1) d 167 91 [some (.ref 27), some (.ref 18), some (.ref 25)] (.int 12 :: .int x :: st) h = zex E n d 167 94 [some (.ref 27), some (.ref 18), some (.ref 25)] st h := (zx1 zf167_91).trans (if_neg hx)
set_option maxRecDepth 100000 in
theorem zf167_94 : zfetch 167 94 = some (.aload_n 0, 1, (0, 0, 0), 0, 0) := by decide +kernel
set_option maxRecDepth 100000 in
theorem zk167_94 (n : Nat) : zex E (n + 1) d 167 94 [some (.ref 27), some (.ref 18), some (.ref 25)] st h = zex E n d 167 95 [some (.ref 27), some (.ref 18), some (.ref 25)] (.ref 27 :: st) h := (zx1 zf167_94).trans (rfl)
set_option maxRecDepth 100000 in
theorem zf167_95 : zfetch 167 95 = some (.getfield 25, 3, (7, 3, 0), 0, 472) := by decide +kernel
set_option maxRecDepth 100000 in
theorem zk167_95 (hP : zat h.1 27 = some (.inr (.inl (7, [some (some 28), some (some 29), none, none])))) (n : Nat) : zex E (n + 1) d 167 95 [some (.ref 27), some (.ref 18), some (.ref 25)] (.ref 27 :: st) h = zex E n d 167 98 [some (.ref 27), some (.ref 18), some (.ref 25)] (.int (h.2.1 27 3) :: st) h := (zx1 zf167_95).trans (zget_n (K := fun s => zex E n d 167 98 [some (.ref 27), some (.ref 18), some (.ref 25)] s h) hP rfl)
set_option maxRecDepth 100000 in
theorem zf167_98 : zfetch 167 98 = some (.iconst 1, 1, (0, 0, 0), 1, 0) := by decide +kernel
set_option maxRecDepth 100000 in
theorem zk167_98 (n : Nat) : zex E (n + 1) d 167 98 [some (.ref 27), some (.ref 18), some (.ref 25)] st h = zex E n d 167 99 [some (.ref 27), some (.ref 18), some (.ref 25)] (.int 1 :: st) h := (zx1 zf167_98).trans (rfl)
set_option maxRecDepth 100000 in
theorem zf167_99 : zfetch 167 99 = some (.iadd, 1, (0, 0, 0), 0, 0) := by decide +kernel
set_option maxRecDepth 100000 in
theorem zk167_99 {x : Int32} (n : Nat) : zex E (n + 1) d 167 99 [some (.ref 27), some (.ref 18), some (.ref 25)] (.int 1 :: .int x :: st) h = zex E n d 167 100 [some (.ref 27), some (.ref 18), some (.ref 25)] (.int (x + 1) :: st) h := (zx1 zf167_99).trans (rfl)
set_option maxRecDepth 100000 in
theorem zf167_100 : zfetch 167 100 = some (.goto 4, 3, (104, 0, 0), 0, 0) := by decide +kernel
set_option maxRecDepth 100000 in
theorem zk167_100 (n : Nat) : zex E (n + 1) d 167 100 [some (.ref 27), some (.ref 18), some (.ref 25)] st h = zex E n d 167 104 [some (.ref 27), some (.ref 18), some (.ref 25)] st h := (zx1 zf167_100).trans (rfl)
set_option maxRecDepth 100000 in
theorem zf167_103 : zfetch 167 103 = some (.iconst 0, 1, (0, 0, 0), 0, 0) := by decide +kernel
set_option maxRecDepth 100000 in
theorem zk167_103 (n : Nat) : zex E (n + 1) d 167 103 [some (.ref 27), some (.ref 18), some (.ref 25)] st h = zex E n d 167 104 [some (.ref 27), some (.ref 18), some (.ref 25)] (.int 0 :: st) h := (zx1 zf167_103).trans (rfl)
set_option maxRecDepth 100000 in
theorem zf167_104 : zfetch 167 104 = some (.putfield 25, 3, (7, 3, 0), 0, 472) := by decide +kernel
set_option maxRecDepth 100000 in
theorem zk167_104 {y : Int32} (hP : zat h.1 27 = some (.inr (.inl (7, [some (some 28), some (some 29), none, none])))) (n : Nat) : zex E (n + 1) d 167 104 [some (.ref 27), some (.ref 18), some (.ref 25)] [.int y, .ref 27] h = zex E n d 167 107 [some (.ref 27), some (.ref 18), some (.ref 25)] [] (zsetI h 27 (upd (h.2.1 27) 3 y)) := (zx1 zf167_104).trans (zpi (K := fun s h => zex E n d 167 107 [some (.ref 27), some (.ref 18), some (.ref 25)] s h) hP rfl)
set_option maxRecDepth 100000 in
theorem zf168_66 : zfetch 168 66 = some (.aload_n 0, 1, (0, 0, 0), 0, 0) := by decide +kernel
set_option maxRecDepth 100000 in
theorem zk168_66 {y : Int32} (n : Nat) : zex E (n + 1) d 168 66 [some (.ref 27), some (.ref 18), some (.ref 25), some (.int y)] st h = zex E n d 168 67 [some (.ref 27), some (.ref 18), some (.ref 25), some (.int y)] (.ref 27 :: st) h := (zx1 zf168_66).trans (rfl)
set_option maxRecDepth 100000 in
theorem zf168_67 : zfetch 168 67 = some (.iload_n 3, 1, (0, 0, 0), 0, 0) := by decide +kernel
set_option maxRecDepth 100000 in
theorem zk168_67 {y : Int32} (n : Nat) : zex E (n + 1) d 168 67 [some (.ref 27), some (.ref 18), some (.ref 25), some (.int y)] st h = zex E n d 168 68 [some (.ref 27), some (.ref 18), some (.ref 25), some (.int y)] (.int y :: st) h := (zx1 zf168_67).trans (rfl)
set_option maxRecDepth 100000 in
theorem zf168_68 : zfetch 168 68 = some (.putfield 25, 3, (7, 3, 0), 0, 472) := by decide +kernel
set_option maxRecDepth 100000 in
theorem zk168_68 {y : Int32} (hP : zat h.1 27 = some (.inr (.inl (7, [some (some 28), some (some 29), none, none])))) (n : Nat) : zex E (n + 1) d 168 68 [some (.ref 27), some (.ref 18), some (.ref 25), some (.int y)] [.int y, .ref 27] h = zex E n d 168 71 [some (.ref 27), some (.ref 18), some (.ref 25), some (.int y)] [] (zsetI h 27 (upd (h.2.1 27) 3 y)) := (zx1 zf168_68).trans (zpi (K := fun s h => zex E n d 168 71 [some (.ref 27), some (.ref 18), some (.ref 25), some (.int y)] s h) hP rfl)
end ZKR
def paLs : zLs := [some (.ref 27), some (.ref 18), some (.ref 25)]
set_option maxRecDepth 100000 in
theorem pvG (k : Nat) : (upd (upd (upd (upd (upd (upd (upd (fun _ => (0 : Int32)) 6 0) 7 0) 8 0) 9 1000) 10 0) 11 0) 12 1 k).toInt = pvv 0 k := by
  unfold upd pvv
  repeat' split
  all_goals first | rfl | omega | decide
set_option maxRecDepth 100000 in
theorem pvH (k : Nat) : (upd (upd (fun _ => (0 : Int32)) 1 0) 2 0 k).toInt = pvv 7 k := by
  unfold upd pvv
  repeat' split
  all_goals first | rfl | omega | decide
set_option maxRecDepth 100000 in
theorem pmake {E : zE} {d : Nat} {h : zH} {r : Nat} (hr : r < 12) (hs : h.1 = bsT r) (hx : (h.2.1 27 3).toInt = (r : Int)) : ∃ h4 : zH, h4.1 = bsT (r + 1) ∧ (∀ c, c < 95 + 9 * r → h4.2.1 c = h.2.1 c) ∧ (∀ c, 95 + 9 * r + 9 ≤ c → h4.2.1 c = h.2.1 c) ∧ (∀ j, j < 9 → ∀ k, (h4.2.1 (95 + 9 * r + j) k).toInt = pvv j k) ∧
    h4.2.2.2.1 = h.2.2.2.1 + 9 ∧ h4.2.2.2.2 = h.2.2.2.2 + 612 ∧ ∀ n, zex E (n + 62) (d + 1) 167 0 paLs [] h = zex E (n + 34) (d + 1) 167 56 paLs [] h4 := by
  obtain ⟨⟨k1, k2⟩, ⟨k3, k4⟩, ⟨k5, k6⟩, k7, ⟨k8, k9⟩, k10, k11⟩ := shk_t r hr
  have k5 := zse_s k5
  have k6 := zse_s k6
  have k7 := zse_s k7
  have k8 := zse_s k8
  have k9 := zse_s k9
  have k10 := zse_s k10
  have k11 := zle_s k11
  have hl : h.1.length = 95 + 9 * r := by rw [hs]; exact k1
  obtain ⟨h1, w, e1⟩ := znw90 (E := E) (d := d) (h := h)
  have w1 : h1.1 = sh1 r := by
    have := w.1
    rw [hl, hs] at this
    exact this
  have hb := znw_c w
  let h2 : zH := zsetS h1 28 (.inl (3, 12, zset (rfG r) r (some h.1.length)))
  have s2 : h2.1 = sh2 r := by
    show zset h1.1 28 _ = _
    rw [w1, hl]
    rfl
  have hx2 : (h2.2.1 27 3).toInt = (r : Int) := by
    have : h1.2.1 27 = h.2.1 27 := w.2.1 27 (by omega)
    show (h1.2.1 27 3).toInt = _
    rw [this]
    exact hx
  have g1 : ∀ n, zex E (n + 62) (d + 1) 167 0 paLs [] h = zex E (n + 48) (d + 1) 167 28 paLs [] h2 := fun n => zmk0 (by rw [hs]; exact k5) (by rw [hs]; exact k6) hx hr k3 e1 (by rw [w1]; exact k7) hb n
  have hl2 : h2.1.length = 95 + 9 * r + 7 := by rw [s2]; exact k2
  obtain ⟨h3, v, e3⟩ := znw107 (E := E) (d := d) (h := h2)
  have w3 : h3.1 = sh3 r := by
    have := v.1
    rw [hl2, s2] at this
    exact this
  have hb3 := znw_c v
  have g2 : ∀ n, zex E (n + 27) (d + 1) 167 28 paLs [] h2 = zex E (n + 13) (d + 1) 167 56 paLs [] (zsetS h3 29 (.inl (4, 12, zset (rfH r) r (some h2.1.length)))) := fun n => zmk28 (by rw [s2]; exact k8) (by rw [s2]; exact k9) hx2 hr k4 e3 (by rw [w3]; exact k10) hb3 n
  refine ⟨zsetS h3 29 (.inl (4, 12, zset (rfH r) r (some h2.1.length))), ?_, fun c hc => ?_, fun c hc => ?_, fun j hj k => ?_, ?_, ?_, fun n => (g1 n).trans (g2 (n + 21))⟩
  · show zset h3.1 29 _ = _
    rw [w3, hl2]
    exact k11
  · show h3.2.1 c = _
    rw [v.2.1 c (by omega)]
    exact w.2.1 c (by omega)
  · show h3.2.1 c = _
    have z1 : (uH : List zS).length = 1 := rfl
    have z2 : (uG : List zS).length = 6 := rfl
    rw [v.2.2.2.2.1 c (by show h2.1.length + 1 < c; omega)]
    exact w.2.2.2.2.1 c (by show h.1.length + 6 < c; omega)
  · show (h3.2.1 (95 + 9 * r + j) k).toInt = _
    by_cases j7 : j < 7
    · rw [v.2.1 _ (by omega)]
      show (h1.2.1 (95 + 9 * r + j) k).toInt = _
      by_cases j0 : j = 0
      · rw [j0, Nat.add_zero, ← hl, w.2.2.1]
        exact pvG k
      · rw [w.2.2.2.1 _ (by omega) (by show _ ≤ h.1.length + 6; omega) k]
        unfold pvv
        rw [if_neg j0]
        rfl
    · by_cases j8 : j = 7
      · rw [j8, ← hl2, v.2.2.1]
        exact pvH k
      · rw [v.2.2.2.1 _ (by omega) (by show _ ≤ h2.1.length + 1; omega) k]
        unfold pvv
        rw [if_neg (by omega)]
        rfl
  · show h3.2.2.2.1 = _
    have z1 : h3.2.2.2.1 = h2.2.2.2.1 + 1 + 1 := v.2.2.2.2.2.1
    have z2 : h1.2.2.2.1 = h.2.2.2.1 + 1 + 6 := w.2.2.2.2.2.1
    have z3 : h2.2.2.2.1 = h1.2.2.2.1 := rfl
    omega
  · show h3.2.2.2.2 = _
    have z1 : h3.2.2.2.2 = h2.2.2.2.2 + 403 := v.2.2.2.2.2.2
    have z2 : h1.2.2.2.2 = h.2.2.2.2 + 209 := w.2.2.2.2.2.2
    have z3 : h2.2.2.2.2 = h1.2.2.2.2 := rfl
    omega
set_option maxRecDepth 100000 in
theorem bHX_c {h h1 : zH} (h2 : ∀ c, c < 95 → h1.2.1 c = h.2.1 c) (hx : bHX h) : bHX h1 := by
  unfold bHX at hx ⊢
  rw [h2 85 (by omega), h2 86 (by omega), h2 87 (by omega), h2 88 (by omega), h2 89 (by omega)]
  exact hx
set_option maxRecDepth 100000 in
theorem pmake_I {h h4 : zH} {r : Nat} (hI : bHI h) (hr : r < 12) (g1 : ∀ c, c < 95 + 9 * r → h4.2.1 c = h.2.1 c) (g2 : ∀ c, 95 + 9 * r + 9 ≤ c → h4.2.1 c = h.2.1 c) (g3 : ∀ j, j < 9 → ∀ k, (h4.2.1 (95 + 9 * r + j) k).toInt = pvv j k) : bHI h4 := by
  refine ⟨fun c k => ?_, ?_, bHX_c (fun c hc => g1 c (by omega)) hI.2.2.1, fun c hc k => ?_⟩
  · by_cases h1 : c < 95 + 9 * r
    · rw [g1 c h1]; exact hI.1 c k
    · by_cases h2 : 95 + 9 * r + 9 ≤ c
      · rw [g2 c h2]; exact hI.1 c k
      · obtain ⟨j, hj⟩ : ∃ j, c = 95 + 9 * r + j := ⟨c - (95 + 9 * r), by omega⟩
        subst hj
        rw [g3 j (by omega) k]
        exact pvb hr (by omega)
  · rw [g1 bWc (by show 85 < _; omega)]
    exact hI.2.1
  · have h9 : c < 95 := by
      unfold bhc at hc
      cases h1 : Nat.beq c 15 with
      | true => rw [abq h1]; decide
      | false =>
        rw [h1, cond_false] at hc
        cases h2 : Nat.beq c 42 with
        | true => rw [abq h2]; decide
        | false =>
          rw [h2, cond_false] at hc
          rw [abq hc]; decide
    rw [g1 c (by omega)]
    exact hI.2.2.2 c hc k
set_option maxRecDepth 100000 in
theorem pmake_Q {h h4 : zH} {r : Nat} (hr : r < 12) (g1 : ∀ c, c < 95 + 9 * r → h4.2.1 c = h.2.1 c) (g2 : ∀ c, 95 + 9 * r + 9 ≤ c → h4.2.1 c = h.2.1 c) : ∀ c k, Nat.testBit sc169.2.1 (bun c k) = false → h4.2.1 c k = h.2.1 c k := by
  intro c k hb
  by_cases h1 : c < 95 + 9 * r
  · rw [g1 c h1]
  · by_cases h2 : 95 + 9 * r + 9 ≤ c
    · rw [g2 c h2]
    · obtain ⟨j, hj⟩ : ∃ j, c = 95 + 9 * r + j := ⟨c - (95 + 9 * r), by omega⟩
      subst hj
      rw [pun_s (pun_t r hr j (by omega))] at hb
      cases hb

/-! the runs -/
def paL : bLs := [some (.inr (.inl (.ref 27))), some (.inr (.inl (.ref 18))), some (.inr (.inl (.ref 25)))]
def paN (z : Int) : bNd := (82, paL, [], [], [(27, 3, (z, []))], (9, []), (1200, []), (0, []))
def paS (z : Int) : bS := (0, [], [], [(27, (3, []), (z, []))], (9, []), (1200, []))
noncomputable def pa0 (pc r n : Nat) : Bool := bfo (.ofNat n) fun z => btz sc169.2.1 (0, []) (cst r) (fun _ _ => false) 3 167 1000000 0 [paN z] (paS z) pc paL
set_option maxRecDepth 100000 in
theorem pa0_all : ∀ r : Nat, r < 13 → ∀ n : Nat, n < r → pa0 0 r n = true := by decide +kernel
set_option maxRecDepth 100000 in
theorem pa56_all : ∀ r : Nat, r < 12 → pa0 56 (r + 1) r = true := by decide +kernel
set_option maxRecDepth 100000 in
theorem pa107 : btz sc169.2.1 (0, []) ctb (bfn 9 1200 0 (bidl 0 0) sc169.2.2.2.2.2.2.2.2) 3 167 1000000 0 [] (0, [], [], [], (9, []), (1200, [])) 107 paL = true := by decide +kernel
def reL (v : Option bV) : bLs := [some (.inr (.inl (.ref 27))), some (.inr (.inl (.ref 18))), some (.inr (.inl (.ref 25))), v]
def reN (z : Int) : bNd := (66, reL (some (.inl (z, []))), [(1, 12)], [], [(27, 2, (0, [(0, 1)]))], (0, []), (0, []), (0, []))
def reS (z : Int) : bS := (0, [], [], [(27, (3, []), (z, []))], (0, []), (0, []))
noncomputable def re0 (r n : Nat) (L : List bNd) : Bool := bfo (.ofNat n) fun z => btz sc170.2.1 (0, []) (cst r) (bfn 0 0 0 (bidl 0 0) sc170.2.2.2.2.2.2.2.2) 3 168 1000000 0 L (reS z) 0 (reL none)
set_option maxRecDepth 100000 in
theorem re0_all : ∀ r : Nat, r < 13 → ∀ n : Nat, n < 11 → n + 1 ≤ r → re0 r (n + 1) [reN n] = true := by decide +kernel
set_option maxRecDepth 100000 in
theorem re0_b : ∀ r : Nat, r < 12 → re0 r 0 [] = true := by decide +kernel
set_option maxRecDepth 100000 in
theorem re0_c : re0 12 0 [reN 11] = true := by decide +kernel
set_option maxRecDepth 100000 in
theorem re71 : btz sc170.2.1 (0, []) ctb (bfn 0 0 0 (bidl 0 0) sc170.2.2.2.2.2.2.2.2) 3 168 1000000 1 [] (1, [(1, 12)], [], [(27, (2, []), (0, [(0, 1)]))], (0, []), (0, [])) 71 (reL none) = true := by decide +kernel

