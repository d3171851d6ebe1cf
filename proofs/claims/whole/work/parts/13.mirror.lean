section MIRROR
abbrev mkS (x : XT) (S : ST) : HP := mkH x S.1 S.2.1 S.2.2.1 S.2.2.2
end MIRROR
