/** Promises 26 to 29: see, fits, odds, mean. */
public final class SeenTest {
    private static final Due due = new Due();

    public static void main(String[] args) {
        seeing();
        fitting();
        likely();
        likelyInAnotherWeek();
        means();
        due.end();
    }

    private static void seeing() {
        CanalTurns x = new CanalTurns();
        due.is("see(0, 0)", x.see(0, 0), -1);
        x.field(0, 1);
        due.is("see(1, 97)", x.see(1, 97), -1);
        due.is("see(-2, 0)", x.see(-2, 0), -1);
        due.is("see(0, -1)", x.see(0, -1), -2);
        due.is("see(0, 97)", x.see(0, 97), -2);
        due.is("see(0, 0)", x.see(0, 0), 1);
        due.is("see(0, 96)", x.see(0, 96), 2);
        for (int k = 3; k <= 5; k++) {
            due.is("see " + k, x.see(0, 23), k);
        }
        due.is("see, sixth", x.see(0, 0), -4);
        due.is("see, sixth, BAD", x.see(0, 97), -2);
        due.is("see, sixth, NONE", x.see(1, 0), -1);
        due.is("count(1)", x.count(1), 5);
        due.is("see(-1, 97)", x.see(-1, 97), 0);
        due.is("count(1)", x.count(1), 0);
        due.is("see(0, 1)", x.see(0, 1), 1);
    }

    private static void fit(CanalTurns x, int howMany, int least) {
        due.is("fits(0)", x.fits(0), howMany);
        due.is("fits(1)", x.fits(1), least);
    }

    private static void fitting() {
        CanalTurns x = new CanalTurns();
        x.field(0, 1);
        fit(x, 89, 8);
        x.see(0, 7);
        fit(x, 1, 8);
        x.see(-1, 0);
        x.see(0, 95);
        fit(x, 1, 96);
        x.see(0, 94);
        fit(x, 0, -5);
        x.see(-1, 0);
        x.see(0, 6);
        fit(x, 0, -5);
        x.see(-1, 0);
        x.see(0, 96);
        fit(x, 0, -5);
        due.is("fits(2)", x.fits(2), -1);
        due.is("fits(-1)", x.fits(-1), -1);
        CanalTurns y = Setups.flat(1, 1);
        y.see(0, 10);
        fit(y, 2, 19);
        y.trade(0, 1, 3);
        fit(y, 2, 19);
        y.see(1, 10);
        fit(y, 1, 20);
        y.see(0, 10);
        fit(y, 1, 20);
        y.absent(1, true);
        fit(y, 0, -5);
        y.see(-1, 0);
        y.see(1, 0);
        fit(y, 89, 8);
    }

    private static void oddsAre(CanalTurns x, int f, long above, long below) {
        due.is("odds(" + f + ", 0)", x.odds(f, 0), above);
        due.is("odds(" + f + ", 1)", x.odds(f, 1), below);
    }

    private static void likely() {
        CanalTurns x = Setups.flat(1, 1);
        x.reach(0, 0, 6);
        oddsAre(x, 0, 0, 1);
        oddsAre(x, 1, 1, 1);
        x.reach(0, 0, 8);
        oddsAre(x, 0, 1, 10);
        x.reach(0, 0, 9);
        oddsAre(x, 0, 1, 5);
        x.hours(96);
        x.trade(0, 1, 43);
        oddsAre(x, 0, 1, 5);
        x.absent(0, true);
        oddsAre(x, 0, 0, 1);
        due.is("odds(2, 0)", x.odds(2, 0), CanalTurns.NO);
        due.is("odds(-1, 0)", x.odds(-1, 0), CanalTurns.NO);
        due.is("odds(0, 2)", x.odds(0, 2), CanalTurns.NO);
        due.is("odds(0, -1)", x.odds(0, -1), CanalTurns.NO);
    }

    /** The CLOCK goes by the HOURS that are supposed: in WEEK 1 by 20 .. 23 and 27 .. 29. */
    private static void likelyInAnotherWeek() {
        CanalTurns x = Setups.flat(1, 1);
        x.reach(0, 0, 6);
        x.pass(1);
        oddsAre(x, 0, 7, 10);
    }

    private static void means() {
        CanalTurns x = Setups.three();
        due.is("mean(0)", x.mean(0), 1430);
        due.is("mean(1)", x.mean(1), 3);
        x.trade(1, 0, 5);
        due.is("mean(0), with TRADES", x.mean(0), 1330);
        x.field(3, 1);
        x.absent(3, true);
        // LEFT 19 of SHARES 2, 1, 1, 1: 7 (rest 3), 3 (4), 3 (4), 3 (4), and 1 to FIELDS 1, 2, 3: 7, 4, 4, 4.
        // The 4 of FIELD 3 go as 2, 1, 1 to the others: 9 * 70 + 5 * 90 + 5 * 70, by 4.
        due.is("mean(0), ABSENT", x.mean(0), 715);
        due.is("mean(1), ABSENT", x.mean(1), 2);
        due.is("mean(2)", x.mean(2), CanalTurns.NO);
        due.is("mean(-1)", x.mean(-1), CanalTurns.NO);
        for (int f = 0; f < 4; f++) {
            x.absent(f, true);
        }
        due.is("mean(0), all ABSENT", x.mean(0), 0);
        due.is("mean(1), all ABSENT", x.mean(1), 1);
        CanalTurns one = Setups.flat(1);
        due.is("mean(0), one", one.mean(0), 24 * 95);
        due.is("mean(1), one", one.mean(1), 1);
        CanalTurns y = new CanalTurns();
        due.is("mean(0), no FIELDS", y.mean(0), CanalTurns.NO);
        due.is("mean(1), no FIELDS", y.mean(1), CanalTurns.NO);
        due.is("NO", CanalTurns.NO, Long.MIN_VALUE);
    }
}
