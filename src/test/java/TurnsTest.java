/** Promises 13 to 18: turn, lag, line, who, shared, told. */
public final class TurnsTest {
    private static final Due due = new Due();

    public static void main(String[] args) {
        order();
        orderOfThePresent();
        lags();
        noHoursLeft();
        lines();
        whoHasAnHour();
        sharedOut();
        tellings();
        lessByMore();
        due.end();
    }

    private static void turns(CanalTurns x, int... want) {
        for (int k = 0; k < want.length; k++) {
            due.is("RULE " + x.told(2) + " WEEK " + x.told(3) + " turn(" + k + ")", x.turn(k), want[k]);
        }
        due.is("turn(-1)", x.turn(-1), -1);
        due.is("turn behind the last", x.turn(want.length), -1);
        due.is("lag(-1)", x.lag(-1), -1);
        due.is("lag behind the last", x.lag(want.length), -1);
        due.is("TURNS", x.told(7), want.length);
    }

    private static void lagsAre(CanalTurns x, int... want) {
        int all = 0;
        for (int k = 0; k < want.length; k++) {
            due.is("RULE " + x.told(2) + " WEEK " + x.told(3) + " lag(" + k + ")", x.lag(k), want[k]);
            all += want[k];
        }
        due.is("all LAGS", x.told(4), all);
    }

    private static void order() {
        int[][][] want = {
            {{1, 0, 2}, {1, 0, 2}, {1, 0, 2}, {1, 0, 2}},
            {{1, 0, 2}, {0, 2, 1}, {2, 1, 0}, {1, 0, 2}},
            {{1, 0, 2}, {2, 0, 1}, {1, 0, 2}, {2, 0, 1}},
            {{1, 0, 2}, {2, 1, 0}, {0, 2, 1}, {1, 0, 2}}};
        for (int rule = 0; rule < 4; rule++) {
            CanalTurns x = Setups.three();
            x.rule(rule);
            for (int week = 0; week < 4; week++) {
                turns(x, want[rule][week]);
                x.pass(1);
            }
        }
        CanalTurns x = Setups.three();
        Setups.passTo(x, 998);
        x.rule(1);
        turns(x, 2, 1, 0);
        x.rule(3);
        turns(x, 0, 2, 1);
        x.pass(1);
        turns(x, 1, 0, 2);
        x.rule(2);
        turns(x, 2, 0, 1);
    }

    private static void orderOfThePresent() {
        CanalTurns x = Setups.three();
        x.absent(0, true);
        x.rule(1);
        turns(x, 1, 2);
        x.pass(1);
        turns(x, 2, 1);
        x.pass(1);
        turns(x, 2, 1);
        x.rule(3);
        turns(x, 2, 1);
        x.absent(2, true);
        turns(x, 1);
        x.absent(1, true);
        turns(x);
        turns(new CanalTurns());
    }

    private static void lags() {
        CanalTurns x = Setups.three();
        lagsAre(x, 2, 3, 0);
        x.rule(1);
        x.pass(1);
        lagsAre(x, 5, 0, 0);
        x.pass(1);
        lagsAre(x, 5, 0, 3);
        due.is("LEFT", x.told(5), 16);
        x.absent(1, true);
        lagsAre(x, 5, 0);
        CanalTurns y = new CanalTurns();
        y.reach(0, 0, 1);
        y.reach(1, 0, 2);
        y.reach(2, 0, 4);
        y.reach(3, 0, 8);
        y.field(0, 1);
        y.field(3, 1);
        lagsAre(y, 1, 14);
        y.renew(0, 0, 1);
        lagsAre(y, 3, 12);
        y.renew(1, 0, 2);
        lagsAre(y, 3, 4);
        y.absent(0, true);
        lagsAre(y, 7);
    }

    private static void noHoursLeft() {
        CanalTurns x = new CanalTurns();
        x.hours(8);
        x.reach(0, 0, 9);
        x.field(3, 4);
        x.reach(3, 0, 9);
        // LAGS 9, 1, 1, 9: more than HOURS.
        due.is("all LAGS", x.told(4), 20);
        due.is("LEFT", x.told(5), 0);
        due.is("HAS", x.of(0, 3), 0);
        due.is("BEGINS", x.of(0, 4), 20);
        due.is("ENDS", x.of(0, 5), 20);
        due.is("NIGHT", x.of(0, 6), 0);
        due.is("who(20)", x.who(20), -5);
        x.hours(20);
        due.is("LEFT by 20", x.told(5), 0);
        x.hours(21);
        due.is("LEFT by 21", x.told(5), 1);
        due.is("who(20)", x.who(20), 0);
    }

    private static void lines() {
        CanalTurns x = new CanalTurns();
        due.is("line(0)", x.line(0), -1);
        int[] reaches = {3, 0, 2, 0, 1, 3, 2, 1};
        int[] want = {1, 3, 4, 7, 2, 6, 0, 5};
        for (int reach : reaches) {
            x.field(reach, 1);
        }
        x.absent(1, true);
        x.rule(1);
        x.pass(1);
        for (int k = 0; k < 8; k++) {
            due.is("line(" + k + ")", x.line(k), want[k]);
        }
        due.is("line(8)", x.line(8), -1);
        due.is("line(-1)", x.line(-1), -1);
    }

    private static void whoHasAnHour() {
        CanalTurns x = Setups.three();
        int[][] want = {{0, -5}, {1, -5}, {2, 1}, {6, 1}, {7, -5}, {9, -5}, {10, 0}, {18, 0}, {19, 2}, {23, 2},
            {24, -5}, {95, -5}, {96, -2}, {-1, -2}, {Integer.MAX_VALUE, -2}};
        for (int[] w : want) {
            due.is("who(" + w[0] + ")", x.who(w[0]), w[1]);
        }
        x.trade(1, 2, 5);
        due.is("who(2), 1 HAS none", x.who(2), -5);
        due.is("who(5)", x.who(5), 0);
        due.is("who(14)", x.who(14), 2);
        CanalTurns y = Setups.flat(1);
        y.hours(96);
        due.is("who(0)", y.who(0), 0);
        due.is("who(95)", y.who(95), 0);
    }

    private static void sharedOut() {
        CanalTurns x = Setups.flat(6, 6, 2);
        int[][] want = {{0, 0, 0, 0}, {1, 1, 0, 0}, {2, 1, 1, 0}, {10, 4, 4, 2}, {11, 5, 5, 1}, {13, 6, 5, 2},
            {14, 6, 6, 2}, {999, 428, 428, 143}};
        x.absent(0, true);
        for (int[] w : want) {
            for (int f = 0; f < 3; f++) {
                due.is("shared(" + w[0] + ", " + f + ")", x.shared(w[0], f), w[f + 1]);
            }
        }
        due.is("shared(0, 3)", x.shared(0, 3), -1);
        due.is("shared(0, -1)", x.shared(0, -1), -1);
        due.is("shared(1000, 3)", x.shared(1000, 3), -1);
        due.is("shared(1000, 0)", x.shared(1000, 0), -2);
        due.is("shared(-1, 0)", x.shared(-1, 0), -2);
        CanalTurns y = Setups.flat(1, 1, 1, 1, 1, 1, 1, 1);
        for (int f = 0; f < 8; f++) {
            due.is("shared(7, " + f + ")", y.shared(7, f), f < 7 ? 1 : 0);
            due.is("shared(9, " + f + ")", y.shared(9, f), f < 1 ? 2 : 1);
        }
    }

    private static void tellings() {
        CanalTurns x = Setups.three();
        x.rule(2);
        x.pass(2);
        x.trade(0, 1, 2);
        // HAVE 7, 7, 5: 1 from 2 to 8, 0 from 12 to 18, 2 from 19 to 23.
        int[] want = {3, 24, 2, 2, 5, 19, 19, 3, 7 * 70 + 7 * 90 + 5 * 70, 1, 4 + 1 + 5, 0};
        for (int what = 0; what < want.length; what++) {
            due.is("told(" + what + ")", x.told(what), want[what]);
        }
        due.is("told(12)", x.told(12), -1);
        due.is("told(-1)", x.told(-1), -1);
    }

    private static void lessByMore() {
        CanalTurns x = Setups.flat(6, 6, 2);
        x.hours(10);
        due.is("LESS", x.told(11), 4);
        x.trade(0, 2, 1);
        due.is("LESS, without TRADES", x.told(11), 4);
        due.is("TRADES", x.told(9), 1);
        x.hours(11);
        due.is("LESS", x.told(11), 0);
        x.hours(96);
        due.is("LESS by 97", x.told(11), 0);
        x.reach(0, 0, 2);
        due.is("LESS by 97", x.told(11), 4);
        CanalTurns y = Setups.flat(2, 6, 6);
        y.hours(10);
        due.is("LESS", y.told(11), 1);
        y.absent(0, true);
        due.is("LESS, ABSENT", y.told(11), 0);
        // 4, 2, 1, 1, 1 of 9; 5, 3, 0, 2, 0 of 10.
        CanalTurns z = Setups.flat(9, 5, 1, 3, 1);
        z.hours(9);
        due.is("LESS, two", z.told(11), 4 + 16);
    }
}
