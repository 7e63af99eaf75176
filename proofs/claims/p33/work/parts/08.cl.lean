abbrev vwCl : List vw_C := [(RX0, TX0, 7), (RX1, TX1, 3), (RX2, TX2, 6), (RX4, TX4, 8), (RX5, TX5, 16), (RX6, TX6, 2), (RX7, TX7, 5), (RX8, TX8, 8)]
