/** Promises 30 to 33: plan, ends, book, looked. */
final class PlansSaid extends Said {
    private static final int ABSENT = 0, WEEKS = 1, RULE = 2, HOURS = 3;

    @Override
    void tell() {
        plan();
        ends();
        book();
        looked();
    }

    private void plan() {
        of("Promise 30: plan");
        says("A row comes to the PLAN: how many there are", due -> {
            CanalTurns x = Setups.flat(1);
            due.is("plan(3, 30)", x.plan(HOURS, 30), 1);
            due.is("plan(0, 0)", x.plan(ABSENT, 0), 2);
            due.is("rows", x.count(2), 2);
            due.is("WATER behind both", x.ends(0), 0);
        });
        says("(what -1: it is empty then, 0, whatever the rest is).", due -> {
            CanalTurns x = Setups.flat(1);
            int[] rest = {0, -1, 99, LEAST_INT, GREATEST_INT};
            for (int n : rest) {
                x.plan(HOURS, 30);
                due.is("plan(-1, " + n + ")", x.plan(-1, n), 0);
                due.is("rows", x.count(2), 0);
                due.is("WATER", x.ends(0), 2280);
            }
            due.is("plan(-1, 0), no FIELDS", new CanalTurns().plan(-1, 0), 0);
            for (int k = 0; k < 8; k++) {
                x.plan(HOURS, 30);
            }
            due.is("plan(-1, 0), of eight", x.plan(-1, 0), 0);
            due.is("plan(3, 30)", x.plan(HOURS, 30), 1);
        });
        says("NONE: what (0 .. 3),", due -> {
            CanalTurns x = Setups.flat(1);
            due.is("plan(-2, 0)", x.plan(-2, 0), NONE);
            due.is("plan(4, 0)", x.plan(4, 0), NONE);
            due.is("plan(MIN, 0)", x.plan(LEAST_INT, 0), NONE);
            due.is("plan(0, 0)", x.plan(ABSENT, 0), 1);
            due.is("plan(3, 8)", x.plan(HOURS, 8), 2);
        });
        says("FIELD n;", due -> {
            CanalTurns x = Setups.flat(1, 1);
            due.is("plan(0, -1)", x.plan(ABSENT, -1), NONE);
            due.is("plan(0, 2)", x.plan(ABSENT, 2), NONE);
            due.is("plan(0, MAX)", x.plan(ABSENT, GREATEST_INT), NONE);
            due.is("plan(0, 1)", x.plan(ABSENT, 1), 1);
            due.is("plan(0, 0), no FIELDS", new CanalTurns().plan(ABSENT, 0), NONE);
            due.is("plan(1, 9), no FIELDS", new CanalTurns().plan(WEEKS, 9), 1);
        });
        says("BAD: n (WEEKS,", due -> {
            CanalTurns x = Setups.flat(1);
            due.is("WEEKS -1", x.plan(WEEKS, -1), BAD);
            due.is("WEEKS 53", x.plan(WEEKS, 53), BAD);
            due.is("WEEKS MAX", x.plan(WEEKS, GREATEST_INT), BAD);
            due.is("WEEKS 0", x.plan(WEEKS, 0), 1);
            due.is("WEEKS 52", x.plan(WEEKS, 52), 2);
        });
        says("RULE,", due -> {
            CanalTurns x = Setups.flat(1);
            due.is("RULE -1", x.plan(RULE, -1), BAD);
            due.is("RULE 4", x.plan(RULE, 4), BAD);
            due.is("RULE MIN", x.plan(RULE, LEAST_INT), BAD);
            due.is("RULE 0", x.plan(RULE, 0), 1);
            due.is("RULE 3", x.plan(RULE, 3), 2);
        });
        says("HOURS);", due -> {
            CanalTurns x = Setups.flat(1);
            due.is("HOURS 7", x.plan(HOURS, 7), BAD);
            due.is("HOURS 97", x.plan(HOURS, 97), BAD);
            due.is("HOURS MAX", x.plan(HOURS, GREATEST_INT), BAD);
            due.is("HOURS 8", x.plan(HOURS, 8), 1);
            due.is("HOURS 96", x.plan(HOURS, 96), 2);
        });
        says("FULL: 8.", due -> {
            CanalTurns x = Setups.flat(1);
            for (int k = 1; k <= 8; k++) {
                due.is("row " + k, x.plan(k % 4, 8 * (k % 4 / 3)), k);
            }
            due.is("a ninth", x.plan(ABSENT, 0), FULL);
            due.is("rows", x.count(2), 8);
        });
    }

    private void ends() {
        of("Promise 31: ends");
        says("ENDS: what 0 WATER, 1 LAGS, 2 hours by NIGHT.", due -> {
            CanalTurns x = Setups.three();
            int[][] want = {{1430, 5, 10}, {1330, 5, 7}};
            for (int what = 0; what < 3; what++) {
                due.is("ends(" + what + "), no row", x.ends(what), want[0][what]);
            }
            x.plan(ABSENT, 1);
            for (int what = 0; what < 3; what++) {
                due.is("ends(" + what + "), FIELD 1 ABSENT", x.ends(what), want[1][what]);
            }
        });
        says("NONE.", due -> {
            CanalTurns x = Setups.three();
            due.is("ends(-1)", x.ends(-1), NONE);
            due.is("ends(3)", x.ends(3), NONE);
            due.is("ends(MIN)", x.ends(LEAST_INT), NONE);
        });
    }

    private void book() {
        of("Promise 32: book");
        says("A row comes to the BOOK: how many there are", due -> {
            CanalTurns x = Setups.flat(1, 1);
            due.is("book(1, 12)", x.book(1, 12), 1);
            due.is("book(0, 11)", x.book(0, 11), 2);
            due.is("rows", x.count(3), 2);
            due.is("LOOKED at", x.looked(), 1);
        });
        says("(field -1: it is empty then, 0, whatever the rest is).", due -> {
            CanalTurns x = Setups.flat(1);
            int[] hours = {0, -1, 97, LEAST_INT, GREATEST_INT};
            for (int h : hours) {
                x.book(0, 1);
                due.is("book(-1, " + h + ")", x.book(-1, h), 0);
                due.is("rows", x.count(3), 0);
                due.is("LOOKED at", x.looked(), NOT_ANY);
            }
            due.is("book(-1, 0), no FIELDS", new CanalTurns().book(-1, 0), 0);
            for (int k = 0; k < 8; k++) {
                x.book(0, 1);
            }
            due.is("book(-1, 0), of eight", x.book(-1, 0), 0);
            due.is("book(0, 1)", x.book(0, 1), 1);
        });
        says("NONE: field;", due -> {
            CanalTurns x = Setups.flat(1);
            due.is("book(-2, 0)", x.book(-2, 0), NONE);
            due.is("book(1, 0)", x.book(1, 0), NONE);
            due.is("book(MAX, 0)", x.book(GREATEST_INT, 0), NONE);
            due.is("book(0, 0), no FIELDS", new CanalTurns().book(0, 0), NONE);
            due.is("rows", x.count(3), 0);
        });
        says("BAD: h;", due -> {
            CanalTurns x = Setups.flat(1);
            due.is("book(0, -1)", x.book(0, -1), BAD);
            due.is("book(0, 97)", x.book(0, 97), BAD);
            due.is("book(0, MIN)", x.book(0, LEAST_INT), BAD);
            due.is("book(0, 0)", x.book(0, 0), 1);
            due.is("book(0, 96)", x.book(0, 96), 2);
        });
        says("FULL: 8.", due -> {
            CanalTurns x = Setups.flat(1);
            for (int k = 1; k <= 8; k++) {
                due.is("book " + k, x.book(0, 24), k);
            }
            due.is("a ninth", x.book(0, 0), FULL);
            due.is("rows", x.count(3), 8);
            due.is("LOOKED at", x.looked(), NOT_ANY);
        });
    }

    private void looked() {
        of("Promise 33: looked");
        says("LOOKED at;", due -> {
            CanalTurns x = Setups.flat(1, 1);
            x.book(0, 11);
            due.is("the first row", x.looked(), 0);
            x.book(-1, 0);
            for (int k = 0; k < 7; k++) {
                x.book(0, 12);
            }
            x.book(1, 11);
            due.is("the eighth row", x.looked(), 7);
        });
        says("-5.", due -> {
            CanalTurns x = Setups.flat(1, 1);
            due.is("no row", x.looked(), NOT_ANY);
            x.book(0, 12);
            x.book(1, 12);
            due.is("none otherwise", x.looked(), NOT_ANY);
            due.is("no FIELDS", new CanalTurns().looked(), NOT_ANY);
        });
    }
}
