/** Promises 30 to 33: plan, ends, book, looked. */
public final class PlansTest {
    private static final Due due = new Due();

    public static void main(String[] args) {
        planning();
        endsOfAbsence();
        endsOfWeeksRulesHours();
        endsAtTheLastWeek();
        tradesOfPlans();
        booking();
        looking();
        due.end();
    }

    private static void planning() {
        CanalTurns x = new CanalTurns();
        due.is("plan(0, 0)", x.plan(0, 0), -1);
        x.field(0, 1);
        due.is("plan(0, 1)", x.plan(0, 1), -1);
        due.is("plan(0, -1)", x.plan(0, -1), -1);
        due.is("plan(4, 0)", x.plan(4, 0), -1);
        due.is("plan(-2, 0)", x.plan(-2, 0), -1);
        due.is("plan(4, 999)", x.plan(4, 999), -1);
        int[][] bad = {{1, -1}, {1, 53}, {2, -1}, {2, 4}, {3, 7}, {3, 97}};
        for (int[] b : bad) {
            due.is("plan(" + b[0] + ", " + b[1] + ")", x.plan(b[0], b[1]), -2);
        }
        int[][] good = {{0, 0}, {1, 0}, {1, 52}, {2, 0}, {2, 3}, {3, 8}, {3, 96}, {0, 0}};
        for (int k = 0; k < 8; k++) {
            due.is("plan " + k, x.plan(good[k][0], good[k][1]), k + 1);
        }
        due.is("plan, ninth", x.plan(0, 0), -4);
        due.is("plan, ninth, BAD", x.plan(1, 53), -2);
        due.is("plan, ninth, NONE", x.plan(0, 1), -1);
        due.is("count(2)", x.count(2), 8);
        due.is("plan(-1, 999)", x.plan(-1, 999), 0);
        due.is("count(2)", x.count(2), 0);
        due.is("plan(1, 1)", x.plan(1, 1), 1);
    }

    private static void endsAre(CanalTurns x, int water, int lags, int nights) {
        due.is("ends(0)", x.ends(0), water);
        due.is("ends(1)", x.ends(1), lags);
        due.is("ends(2)", x.ends(2), nights);
    }

    private static void endsOfAbsence() {
        CanalTurns x = Setups.three();
        endsAre(x, 1430, 5, 10);
        x.plan(0, 1);
        endsAre(x, 1330, 5, 7);
        due.is("nothing changes", x.of(1, 2), 0);
        x.absent(1, true);
        endsAre(x, 1430, 5, 10);
        x.plan(0, 1);
        endsAre(x, 1330, 5, 7);
        due.is("ends(3)", x.ends(3), -1);
        due.is("ends(-1)", x.ends(-1), -1);
        endsAre(new CanalTurns(), 0, 0, 0);
    }

    private static void endsOfWeeksRulesHours() {
        CanalTurns x = Setups.three();
        x.plan(1, 2);
        endsAre(x, 1430, 5, 10);
        x.plan(2, 1);
        // HAVE 8, 4, 4; FIELD 2 at 5, 1 at 9, 0 at 16.
        endsAre(x, 8 * 70 + 4 * 90 + 4 * 70, 8, 7);
        x.plan(3, 8);
        endsAre(x, 0, 8, 0);
        x.plan(2, 0);
        // LEFT 3: 1, 1, 1; FIELD 1 at 2, 0 at 6, 2 at 7; CLOCK from 16 on.
        endsAre(x, 230, 5, 1 + 1 + 1);
        due.is("nothing changes", x.told(3), 0);
        due.is("nothing changes", x.told(2), 0);
        due.is("nothing changes", x.told(1), 24);
        due.is("the PLAN stays", x.count(2), 4);
        x.plan(-1, 0);
        endsAre(x, 1430, 5, 10);
    }

    private static void endsAtTheLastWeek() {
        CanalTurns x = Setups.three();
        Setups.passTo(x, 990);
        x.rule(2);
        endsAre(x, 1430, 5, 10);
        x.plan(1, 52);
        endsAre(x, 1430, 5, 7);
        x.plan(1, 0);
        endsAre(x, 1430, 5, 7);
        x.plan(1, 1);
        endsAre(x, 1430, 5, 7);
        x.plan(-1, 0);
        x.plan(1, 8);
        endsAre(x, 1430, 5, 10);
        due.is("WEEK stays", x.told(3), 990);
    }

    private static void tradesOfPlans() {
        int[][] rows = {{1, 0}, {2, 0}, {3, 24}};
        for (int[] row : rows) {
            CanalTurns x = Setups.three();
            x.trade(1, 0, 5);
            // FIELD 1 HAS none, so FIELD 0 has 5 .. 18, FIELD 2 19 .. 23.
            endsAre(x, 1330, 5, 2 + 5);
            x.plan(row[0], row[1]);
            endsAre(x, 1430, 5, 10);
            due.is("TRADES stay", x.told(9), 1);
            due.is("HAS", x.of(0, 3), 14);
        }
        CanalTurns x = Setups.three();
        x.trade(1, 0, 5);
        x.plan(0, 2);
        x.plan(0, 2);
        endsAre(x, 1430, 5, 10);
    }

    private static void booking() {
        CanalTurns x = new CanalTurns();
        due.is("book(0, 0)", x.book(0, 0), -1);
        x.field(0, 1);
        due.is("book(1, 97)", x.book(1, 97), -1);
        due.is("book(-2, 0)", x.book(-2, 0), -1);
        due.is("book(0, -1)", x.book(0, -1), -2);
        due.is("book(0, 97)", x.book(0, 97), -2);
        for (int k = 1; k <= 8; k++) {
            due.is("book " + k, x.book(0, k % 2 == 0 ? 0 : 96), k);
        }
        due.is("book, ninth", x.book(0, 0), -4);
        due.is("book, ninth, BAD", x.book(0, 97), -2);
        due.is("book, ninth, NONE", x.book(1, 0), -1);
        due.is("count(3)", x.count(3), 8);
        due.is("book(-1, 97)", x.book(-1, 97), 0);
        due.is("count(3)", x.count(3), 0);
    }

    private static void looking() {
        CanalTurns x = Setups.three();
        due.is("looked, no rows", x.looked(), -5);
        x.book(0, 9);
        x.book(1, 5);
        due.is("looked", x.looked(), -5);
        x.book(2, 4);
        x.book(0, 1);
        due.is("looked", x.looked(), 2);
        x.trade(2, 1, 1);
        due.is("looked, with TRADES", x.looked(), 1);
        x.undoTrade();
        x.absent(0, true);
        due.is("looked", x.looked(), 0);
        x.book(-1, 0);
        for (int k = 0; k < 7; k++) {
            x.book(0, 0);
        }
        due.is("looked, ABSENT", x.looked(), -5);
        x.book(0, 1);
        due.is("looked, the last row", x.looked(), 7);
    }
}
