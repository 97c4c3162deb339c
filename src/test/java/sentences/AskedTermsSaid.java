/** Terms, part 2: CHAIN, OVER, UNEVEN, EVENEST, LESS, SEEN, FITS, ODDS, MEAN. */
final class AskedTermsSaid extends Said {
    private static final int HEAD = 0, ON = 1, FLIP = 2, BACK = 3;

    @Override
    void tell() {
        of("Terms 2");
        asked();
        chain();
        over();
        uneven();
        evenest();
        less();
        fits();
        odds();
        mean();
    }

    private void asked() {
        says("All that follows is asked, and changes nothing.", due -> {
            CanalTurns x = Setups.three();
            x.trade(0, 1, 2);
            x.see(0, 9);
            x.plan(0, 0);
            x.plan(1, 3);
            x.book(1, 5);
            x.image();
            x.tape(0, 0, 3);
            java.util.List<Long> before = Setups.all(x);
            for (int n = -1; n <= 13; n++) {
                for (int what = -1; what <= 2; what++) {
                    x.chain(what);
                    x.over(what, n, what);
                    x.fits(what);
                    x.odds(what, n);
                    x.mean(what);
                    x.ends(what);
                }
                x.uneven(n);
                x.evenest(n);
                x.told(n);
            }
            x.looked();
            due.holds("all is as it was", Setups.all(x).equals(before));
        });
    }

    private void chain() {
        says("CHAIN of a FIELD: BITS (2 to the i for each FIELD i, together) of FIELDS to which it gave by a TRADE,",
            due -> {
            CanalTurns x = Setups.flat(1, 1, 1, 1, 1, 1, 1, 1);
            due.is("without TRADES", x.chain(1), 0);
            x.trade(1, 0, 1);
            due.is("it gave to 0", x.chain(1), 1);
            x.trade(1, 7, 1);
            due.is("it gave to 0 and 7", x.chain(1), 129);
            x.trade(1, 7, 1);
            due.is("to 7 twice", x.chain(1), 129);
            due.is("0 gave none", x.chain(0), 0);
        });
        says("or to which one of these gave by a later TRADE than that by which it came to be one,", due -> {
            CanalTurns x = Setups.flat(1, 1, 1, 1);
            x.trade(1, 2, 1);
            x.trade(0, 1, 1);
            due.is("1 gave to 2 earlier", x.chain(0), 2);
            x.trade(1, 3, 1);
            due.is("1 gave to 3 later", x.chain(0), 2 + 8);
            CanalTurns y = Setups.flat(1, 1, 1);
            y.trade(0, 1, 1);
            y.trade(1, 2, 1);
            y.trade(0, 1, 1);
            due.is("1 came to be one twice", y.chain(0), 2 + 4);
        });
        says("and so on.", due -> {
            CanalTurns x = Setups.flat(1, 1, 1, 1, 1, 1, 1, 1);
            for (int f = 0; f < 7; f++) {
                x.trade(f, f + 1, 1);
            }
            due.is("from each to the next", x.chain(0), 254);
            due.is("from each to the next", x.chain(6), 128);
            x.trade(7, 3, 1);
            due.is("back to one of them", x.chain(3), 8 + 16 + 32 + 64 + 128);
            x.trade(3, 0, 1);
            due.is("back to itself", x.chain(0), 255);
        });
    }

    /** Three FIELDS with 8 hours each: of these the first TURN has 6 by NIGHT, the second 0, the third 6. */
    private static CanalTurns threeAlike(int rule) {
        CanalTurns x = Setups.flat(1, 1, 1);
        x.rule(rule);
        return x;
    }

    private void over() {
        says("OVER n WEEKS (1 .. 12):", due -> {
            CanalTurns x = threeAlike(HEAD);
            due.is("0 WEEKS", x.over(0, 0, 0), BAD);
            due.is("1 WEEK", x.over(0, 1, 0), 8);
            due.is("12 WEEKS", x.over(0, 12, 0), 96);
            due.is("13 WEEKS", x.over(0, 13, 0), BAD);
        });
        says("WEEK and those behind it", due -> {
            CanalTurns x = threeAlike(ON);
            due.is("from WEEK 0 on, 1", x.over(1, 1, 1), 0);
            due.is("from WEEK 0 on, 2", x.over(1, 2, 1), 6);
            due.is("from WEEK 0 on, 3", x.over(1, 3, 1), 12);
            x.pass(2);
            due.is("from WEEK 2 on, 1", x.over(1, 1, 1), 6);
            due.is("from WEEK 2 on, 2", x.over(1, 2, 1), 6);
            Setups.passTo(x, 999);
            due.is("from WEEK 999 on, 1", x.over(1, 1, 1), 0);
            due.is("from WEEK 999 on, 2", x.over(1, 2, 1), 6);
            due.is("from WEEK 999 on, 12", x.over(1, 12, 1), 48);
        });
        says("(as if all stayed as it is;", due -> {
            CanalTurns x = threeAlike(HEAD);
            x.absent(2, true);
            due.is("ABSENT ones stay so", x.over(2, 12, 0), 0);
            due.is("those of its REACH have its hours", x.over(0, 12, 0), 144);
        });
        says("TRADES in WEEK alone):", due -> {
            CanalTurns x = threeAlike(HEAD);
            x.trade(0, 1, 8);
            due.is("1 WEEK, who gave", x.over(0, 1, 0), 0);
            due.is("2 WEEKS, who gave", x.over(0, 2, 0), 8);
            due.is("1 WEEK, who got", x.over(1, 1, 0), 16);
            due.is("12 WEEKS, who got", x.over(1, 12, 0), 104);
            due.is("1 WEEK by NIGHT, who got", x.over(1, 1, 1), 6);
            due.is("12 WEEKS by NIGHT, who got", x.over(1, 12, 1), 6);
        });
        says("hours a FIELD HAS, hours by NIGHT, together.", due -> {
            CanalTurns x = threeAlike(BACK);
            due.is("hours", x.over(2, 2, 0), 16);
            due.is("hours by NIGHT", x.over(2, 2, 1), 12);
        });
    }

    private void uneven() {
        says("UNEVEN by n: of FIELDS that aren't ABSENT the most hours by NIGHT OVER n WEEKS less the fewest", due -> {
            CanalTurns x = threeAlike(ON);
            due.is("6, 0, 6", x.uneven(1), 6);
            due.is("12, 6, 6", x.uneven(2), 6);
            due.is("12, 12, 12", x.uneven(3), 0);
            x.rule(HEAD);
            due.is("72, 0, 72", x.uneven(12), 72);
            x.absent(1, true);
            // From 0 to 12 and from 12 to 24.
            due.is("6, 6, without the ABSENT one's 0", x.uneven(1), 0);
        });
        says("OVER n WEEKS less the fewest", due -> {
            // 4 hours each: in WEEKS 0, 1, 2 from 0, 8, 16 o'clock on 4 and 2, 0 and 0, 2 and 4 by NIGHT.
            CanalTurns x = Setups.flat(1, 1);
            x.hours(8);
            due.is("WEEKS 0, 1", x.uneven(2), 2);
            due.is("WEEKS 0, 1, 2", x.uneven(3), 0);
            x.pass(1);
            due.is("WEEKS 1, 2", x.uneven(2), 2);
            x.pass(1);
            due.is("WEEKS 2, 3", x.uneven(2), 0);
            Setups.passTo(x, 998);
            due.is("WEEKS 998, 999", x.uneven(2), 0);
            x.pass(1);
            due.is("WEEKS 999, 1000", x.uneven(2), 2);
        });
        says("(0: there are none),", due -> {
            due.is("no FIELDS", new CanalTurns().uneven(12), 0);
            CanalTurns x = threeAlike(HEAD);
            for (int f = 0; f < 3; f++) {
                x.absent(f, true);
            }
            due.is("all ABSENT", x.uneven(1), 0);
        });
        says("without TRADES.", due -> {
            CanalTurns x = threeAlike(HEAD);
            x.trade(0, 1, 8);
            x.trade(2, 1, 8);
            due.is("6, 0, 6; with TRADES 0, 12, 0", x.uneven(1), 6);
            due.is("72, 0, 72", x.uneven(12), 72);
        });
    }

    /** By 8 HOURS in this WEEK: hours of the FIELDS are as their SHARES, twice. */
    private static void evenestIs(Due due, int week, int n, int want, int... shares) {
        for (int rule = HEAD; rule <= BACK; rule++) {
            CanalTurns x = Setups.flat(shares);
            x.hours(8);
            x.pass(week);
            x.rule(rule);
            due.is("WEEK " + week + ", RULE " + rule + ", evenest(" + n + ")", x.evenest(n), want);
        }
    }

    private void evenest() {
        says("EVENEST by n: the RULE by which that is least,", due -> {
            // From 0 o'clock on 6 and 0 of 12 HOURS, from 12 on 0 and 6: by all other RULES the same FIELD has both.
            CanalTurns x = Setups.flat(1, 1);
            x.hours(12);
            due.is("HEAD", x.evenest(2), HEAD);
            // From 16 o'clock on, the last 6 hours by NIGHT: 2, 2, 2 in the order 2, 0, 1.
            evenestIs(due, 2, 1, ON, 1, 1, 2);
            // From 0 o'clock on, the first 6 hours by NIGHT: 2, 2, 2 in the order 2, 1, 0.
            evenestIs(due, 3, 1, FLIP, 2, 1, 1);
            // From 16 o'clock on: 2, 2, 2 in the order 1, 2, 0.
            evenestIs(due, 2, 1, BACK, 1, 2, 1);
        });
        says("of several the least.", due -> {
            due.is("no FIELDS, all alike", new CanalTurns().evenest(1), HEAD);
            CanalTurns x = threeAlike(BACK);
            due.is("1 WEEK, all alike", x.evenest(1), HEAD);
            due.is("3 WEEKS, by ON and BACK none is uneven", x.evenest(3), ON);
        });
    }

    private void less() {
        says("LESS: BITS of FIELDS that would HAVE less, were HOURS 1 more", due -> {
            CanalTurns x = Setups.flat(6, 6, 2);
            x.hours(10);
            // 4, 4, 2 of 10; 5, 5, 1 of 11.
            due.is("LESS by 10", x.told(11), 4);
            due.is("HOURS stay", x.told(1), 10);
            x.hours(11);
            due.is("LESS by 11", x.told(11), 0);
            // 4, 2, 1, 1, 1 of 9; 5, 3, 0, 2, 0 of 10.
            CanalTurns y = Setups.flat(9, 5, 1, 3, 1);
            y.hours(9);
            due.is("LESS, two of them", y.told(11), 4 + 16);
            CanalTurns z = Setups.flat(2, 6, 6);
            z.hours(10);
            due.is("LESS, the first", z.told(11), 1);
            z.absent(0, true);
            due.is("LESS, the first ABSENT", z.told(11), 0);
        });
        says("(also 97),", due -> {
            CanalTurns x = Setups.flat(6, 6, 2);
            x.hours(96);
            due.is("LESS by 96", x.told(11), 0);
            x.reach(0, 0, 2);
            // 40, 40, 14 of 94; 41, 41, 13 of 95.
            due.is("LESS by 96, LAG 2", x.told(11), 4);
        });
        says("without TRADES both times.", due -> {
            CanalTurns x = Setups.flat(6, 6, 2);
            x.hours(10);
            x.trade(0, 1, 4);
            due.is("LESS, with a TRADE", x.told(11), 4);
            x.undoTrade();
            x.trade(2, 0, 2);
            due.is("LESS, with another", x.told(11), 4);
        });
    }

    private static void fitsAre(Due due, CanalTurns x, int howMany, int least) {
        due.is("HOURS that fit", x.fits(0), howMany);
        due.is("the least", x.fits(1), least);
    }

    private void fits() {
        says("SEEN told by hand: a FIELD, hours (5 rows at most).", due -> {
            CanalTurns x = Setups.flat(1, 1);
            for (int k = 1; k <= 5; k++) {
                due.is("row " + k, x.see(k % 2, 12), k);
            }
            due.is("a sixth row", x.see(0, 12), FULL);
            due.is("SEEN", x.count(1), 5);
            fitsAre(due, x, 1, 24);
        });
        says("FITS: how many HOURS 8 .. 96 there are by which,", due -> {
            CanalTurns x = Setups.flat(1);
            fitsAre(due, x, 89, 8);
            x.see(0, 8);
            fitsAre(due, x, 1, 8);
            x.see(-1, 0);
            x.see(0, 96);
            fitsAre(due, x, 1, 96);
            x.reach(0, 0, 1);
            fitsAre(due, x, 0, NOT_ANY);
            x.see(-1, 0);
            x.see(0, 6);
            fitsAre(due, x, 0, NOT_ANY);
        });
        says("without TRADES, all of SEEN HAVE so many;", due -> {
            CanalTurns x = Setups.flat(1, 1);
            x.trade(0, 1, 5);
            x.see(0, 12);
            fitsAre(due, x, 2, 23);
            x.see(1, 11);
            fitsAre(due, x, 1, 23);
            x.see(1, 12);
            fitsAre(due, x, 0, NOT_ANY);
        });
        says("the least (-5: none).", due -> {
            CanalTurns x = Setups.flat(1, 9);
            x.see(0, 1);
            // 0.8 to 1.4 of 8 to 14; of 15 the rests are alike.
            fitsAre(due, x, 7, 8);
            x.see(0, 2);
            fitsAre(due, x, 0, NOT_ANY);
        });
    }

    /** One FIELD, whose TURN BEGINS at this hour and takes the rest of HOURS. */
    private static CanalTurns from(int lag) {
        CanalTurns x = new CanalTurns();
        x.field(3, 1);
        int rest = lag;
        for (int r = 0; r < 4; r++) {
            int fill = Math.min(rest, 9);
            x.reach(r, 0, fill);
            rest -= fill;
        }
        return x;
    }

    private static void oddsAre(Due due, String when, CanalTurns x, int f, int above, int below) {
        due.is("ODDS " + when + ", above", x.odds(f, 0), above);
        due.is("ODDS " + when + ", below", x.odds(f, 1), below);
    }

    private void odds() {
        says("ODDS of a FIELD: were HOURS 20, 21, .. 29, each alike likely: how likely it has an hour by NIGHT,",
            due -> {
            oddsAre(due, "from 19 on", from(19), 0, 1, 1);
            oddsAre(due, "from 20 on", from(20), 0, 9, 10);
            oddsAre(due, "from 22 on", from(22), 0, 7, 10);
            oddsAre(due, "from 28 on", from(28), 0, 1, 10);
            oddsAre(due, "from 29 on", from(29), 0, 0, 1);
            CanalTurns x = from(19);
            x.pass(1);
            // At 15 by 20, 16 and 17 by 21, up to 18 by 22, 23; later ones begin by NIGHT.
            oddsAre(due, "from 19 on in WEEK 1", x, 0, 4, 5);
            x.hours(96);
            oddsAre(due, "from 19 on in WEEK 1, HOURS 96", x, 0, 4, 5);
        });
        says("without TRADES:", due -> {
            CanalTurns x = Setups.flat(1, 1);
            x.reach(0, 0, 6);
            x.trade(1, 0, 9);
            oddsAre(due, "of the first, from 6 to 18 at most", x, 0, 0, 1);
            oddsAre(due, "of the second, behind it", x, 1, 1, 1);
        });
        says("a fraction in lowest terms.", due -> {
            oddsAre(due, "of 8 of 10", from(21), 0, 4, 5);
            oddsAre(due, "of 5 of 10", from(24), 0, 1, 2);
            oddsAre(due, "of 4 of 10", from(25), 0, 2, 5);
            oddsAre(due, "of 2 of 10", from(27), 0, 1, 5);
            CanalTurns x = from(19);
            x.absent(0, true);
            oddsAre(due, "of 0 of 10", x, 0, 0, 1);
        });
    }

    private static void meanIs(Due due, String name, CanalTurns x, long above, long below) {
        due.is("MEAN " + name + ", above", x.mean(0), above);
        due.is("MEAN " + name + ", below", x.mean(1), below);
    }

    private void mean() {
        says("MEAN: WATER of all FIELDS, by how many there are:", due -> {
            CanalTurns x = Setups.three();
            meanIs(due, "of 630, 450, 350", x, 1430, 3);
            x.trade(1, 0, 5);
            meanIs(due, "of 980, 0, 350", x, 1330, 3);
            x.absent(1, true);
            meanIs(due, "with an ABSENT one", x, 1330, 3);
        });
        says("a fraction in lowest terms", due -> {
            CanalTurns x = Setups.flat(1, 1, 1, 1);
            x.hours(9);
            meanIs(due, "855 by 4", x, 855, 4);
            x.hours(10);
            meanIs(due, "950 by 4", x, 475, 2);
            x.hours(12);
            meanIs(due, "1140 by 4", x, 285, 1);
            x.reach(0, 1, 0);
            x.hours(96);
            meanIs(due, "9600 by 4", x, 2400, 1);
            x.hours(8);
            x.reach(0, 0, 9);
            meanIs(due, "0 by 4", x, 0, 1);
        });
        says("(NO: none).", due -> {
            meanIs(due, "without FIELDS", new CanalTurns(), NO, NO);
            meanIs(due, "of one", Setups.flat(1), 2280, 1);
        });
    }
}
