/** Promises 1 to 10: a new object, field, renew, absent, reach, reachOf, hours, rule, pass, of. */
public final class FieldsTest {
    private static final Due due = new Due();

    public static void main(String[] args) {
        newObject();
        fields();
        renewing();
        absence();
        reaches();
        hoursRuleWeeks();
        ofOne();
        ofThoseWithoutTurns();
        due.end();
    }

    private static void newObject() {
        CanalTurns x = new CanalTurns();
        int[] told = {0, 24, 0, 0, 0, 24, 0, 0, 0, 0, 0, 0};
        for (int i = 0; i < told.length; i++) {
            due.is("new told " + i, x.told(i), told[i]);
        }
        for (int r = 0; r < 4; r++) {
            due.is("new FILL", x.reachOf(r, 0), 1);
            due.is("new LOSS", x.reachOf(r, 1), 5);
            due.is("new FIELDS", x.reachOf(r, 2), 0);
        }
        for (int i = 0; i < 5; i++) {
            due.is("new count " + i, x.count(i), 0);
        }
        for (int t = 0; t < 6; t++) {
            due.is("new TAPE", x.item(t, 0, 1), -11);
        }
        due.is("new undo", x.undo(), CanalTurns.STATE);
        CanalTurns y = new CanalTurns();
        y.field(0, 1);
        y.hours(40);
        due.is("another object", x.told(0), 0);
        due.is("another object", x.told(1), 24);
    }

    private static void fields() {
        CanalTurns x = new CanalTurns();
        due.is("field(-1, 1)", x.field(-1, 1), -2);
        due.is("field(4, 1)", x.field(4, 1), -2);
        due.is("field(0, 0)", x.field(0, 0), -2);
        due.is("field(0, 10)", x.field(0, 10), -2);
        due.is("field(MIN, MAX)", x.field(Integer.MIN_VALUE, Integer.MAX_VALUE), -2);
        due.is("none came", x.count(0), 0);
        for (int i = 0; i < 8; i++) {
            due.is("field " + i, x.field(i % 4, i == 0 ? 1 : i + 2), i);
        }
        due.is("field, ninth", x.field(0, 1), -4);
        due.is("field(4, 1), ninth", x.field(4, 1), -2);
        due.is("field(0, 10), ninth", x.field(0, 10), -2);
        due.is("eight", x.told(0), 8);
        for (int i = 0; i < 8; i++) {
            due.is("REACH of " + i, x.of(i, 0), i % 4);
            due.is("SHARE of " + i, x.of(i, 1), i == 0 ? 1 : i + 2);
            due.is("ABSENT of " + i, x.of(i, 2), 0);
        }
    }

    private static void renewing() {
        CanalTurns x = Setups.three();
        due.is("renew(0, 0, 3)", x.renew(0, 0, 3), 1);
        due.is("renew(0, 0, 0)", x.renew(0, 0, 0), 3);
        due.is("REACH then", x.of(0, 0), 0);
        due.is("renew(2, 1, 9)", x.renew(2, 1, 9), 1);
        due.is("renew(2, 1, 1)", x.renew(2, 1, 1), 9);
        due.is("SHARE then", x.of(2, 1), 1);
        due.is("renew(3, 0, 0)", x.renew(3, 0, 0), -1);
        due.is("renew(-1, 0, 0)", x.renew(-1, 0, 0), -1);
        due.is("renew(0, 2, 0)", x.renew(0, 2, 0), -1);
        due.is("renew(0, -1, 0)", x.renew(0, -1, 0), -1);
        due.is("renew(0, 2, 99)", x.renew(0, 2, 99), -1);
        due.is("renew(3, 0, 99)", x.renew(3, 0, 99), -1);
        due.is("renew(0, 0, 4)", x.renew(0, 0, 4), -2);
        due.is("renew(0, 0, -1)", x.renew(0, 0, -1), -2);
        due.is("renew(0, 1, 0)", x.renew(0, 1, 0), -2);
        due.is("renew(0, 1, 10)", x.renew(0, 1, 10), -2);
        due.is("REACH stays", x.of(0, 0), 0);
        due.is("SHARE stays", x.of(0, 1), 2);
        due.is("LINE then", x.line(0), 0);
        due.is("FIELDS on 0", x.reachOf(0, 2), 2);
        due.is("FIELDS on 1", x.reachOf(1, 2), 1);
    }

    private static void absence() {
        CanalTurns x = Setups.three();
        due.is("absent(0, true)", x.absent(0, true), 0);
        due.is("absent(0, true) again", x.absent(0, true), 1);
        due.is("ABSENT then", x.of(0, 2), 1);
        due.is("the others", x.of(1, 2) + x.of(2, 2), 0);
        due.is("absent(0, false)", x.absent(0, false), 1);
        due.is("absent(0, false) again", x.absent(0, false), 0);
        due.is("not ABSENT then", x.of(0, 2), 0);
        due.is("absent(3, true)", x.absent(3, true), -1);
        due.is("absent(-1, true)", x.absent(-1, true), -1);
        x.absent(2, true);
        due.is("a FIELD that comes", x.field(0, 1), 3);
        due.is("isn't ABSENT", x.of(3, 2), 0);
    }

    private static void reaches() {
        CanalTurns x = new CanalTurns();
        due.is("reach(3, 0, 9)", x.reach(3, 0, 9), 1);
        due.is("reach(3, 0, 0)", x.reach(3, 0, 0), 9);
        due.is("reach(3, 1, 25)", x.reach(3, 1, 25), 5);
        due.is("reach(3, 1, 0)", x.reach(3, 1, 0), 25);
        due.is("FILL then", x.reachOf(3, 0), 0);
        due.is("LOSS then", x.reachOf(3, 1), 0);
        due.is("another's FILL", x.reachOf(2, 0), 1);
        due.is("reach(4, 0, 0)", x.reach(4, 0, 0), -1);
        due.is("reach(-1, 0, 0)", x.reach(-1, 0, 0), -1);
        due.is("reach(4, 0, 99)", x.reach(4, 0, 99), -1);
        due.is("reach(0, 2, 0)", x.reach(0, 2, 0), -1);
        due.is("reach(0, -1, 99)", x.reach(0, -1, 99), -1);
        due.is("reach(0, 0, 10)", x.reach(0, 0, 10), -2);
        due.is("reach(0, 0, -1)", x.reach(0, 0, -1), -2);
        due.is("reach(0, 1, 26)", x.reach(0, 1, 26), -2);
        due.is("reach(0, 1, -1)", x.reach(0, 1, -1), -2);
        due.is("FILL stays", x.reachOf(0, 0), 1);
        due.is("LOSS stays", x.reachOf(0, 1), 5);
        due.is("reachOf(-1, 0)", x.reachOf(-1, 0), -1);
        due.is("reachOf(4, 0)", x.reachOf(4, 0), -1);
        due.is("reachOf(0, -1)", x.reachOf(0, -1), -1);
        due.is("reachOf(0, 3)", x.reachOf(0, 3), -1);
        x.field(2, 1);
        x.field(2, 1);
        x.field(1, 1);
        x.absent(0, true);
        due.is("ABSENT ones count", x.reachOf(2, 2), 2);
        due.is("one on 1", x.reachOf(1, 2), 1);
    }

    private static void hoursRuleWeeks() {
        CanalTurns x = new CanalTurns();
        due.is("hours(8)", x.hours(8), 24);
        due.is("hours(96)", x.hours(96), 8);
        due.is("hours(7)", x.hours(7), -2);
        due.is("hours(97)", x.hours(97), -2);
        due.is("HOURS stay", x.told(1), 96);
        due.is("rule(3)", x.rule(3), 0);
        due.is("rule(0)", x.rule(0), 3);
        due.is("rule(2)", x.rule(2), 0);
        due.is("rule(4)", x.rule(4), -2);
        due.is("rule(-1)", x.rule(-1), -2);
        due.is("RULE stays", x.told(2), 2);
        due.is("pass(0)", x.pass(0), 0);
        due.is("pass(52)", x.pass(52), 52);
        due.is("pass(53)", x.pass(53), -2);
        due.is("pass(-1)", x.pass(-1), -2);
        due.is("to 998", Setups.passTo(x, 998), 998);
        due.is("pass(2)", x.pass(2), -4);
        due.is("pass(52) at the end", x.pass(52), -4);
        due.is("pass(53) at the end", x.pass(53), -2);
        due.is("WEEK stays", x.told(3), 998);
        due.is("pass(1)", x.pass(1), 999);
        due.is("pass(1) at 999", x.pass(1), -4);
        due.is("pass(0) at 999", x.pass(0), 999);
        due.is("WEEK 999", x.told(3), 999);
    }

    private static void ofOne() {
        CanalTurns x = Setups.three();
        int[][] want = {
            {1, 2, 0, 9, 10, 19, 1, 630, 1},
            {0, 1, 0, 5, 2, 7, 4, 450, 0},
            {1, 1, 0, 5, 19, 24, 5, 350, 2}};
        for (int f = 0; f < 3; f++) {
            for (int what = 0; what < 9; what++) {
                due.is("of(" + f + ", " + what + ")", x.of(f, what), want[f][what]);
            }
        }
        due.is("of(3, 0)", x.of(3, 0), -1);
        due.is("of(-1, 0)", x.of(-1, 0), -1);
        due.is("of(0, 9)", x.of(0, 9), -1);
        due.is("of(0, -1)", x.of(0, -1), -1);
        x.hours(30);
        x.pass(1);
        // LEFT 25: 12, 6, 6 and one to FIELD 0 or another: rests 2, 1, 1. CLOCK: 30 and t.
        due.is("HAS by 30", x.of(0, 3), 13);
        due.is("HAS by 30", x.of(1, 3), 6);
        due.is("HAS by 30", x.of(2, 3), 6);
        due.is("NIGHT of 2 .. 7 at 8 o'clock", x.of(1, 6), 0);
        due.is("NIGHT of 11 .. 23 at 17 o'clock", x.of(0, 6), 12);
        due.is("NIGHT of 24 .. 29 at 6 o'clock", x.of(2, 6), 0);
        due.is("all by NIGHT", x.told(10), 12);
        CanalTurns y = Setups.flat(1);
        for (int r = 0; r < 4; r++) {
            y.reach(r, 1, 25);
        }
        int[] water = {24 * 75, 23 * 50, 22 * 25, 0};
        for (int r = 0; r < 4; r++) {
            y.renew(0, 0, r);
            due.is("WATER on " + r, y.of(0, 7), water[r]);
        }
    }

    private static void ofThoseWithoutTurns() {
        CanalTurns x = Setups.three();
        x.absent(0, true);
        int[] want = {1, 2, 1, 0, -5, -5, 0, 0, -5};
        for (int what = 0; what < 9; what++) {
            due.is("of the ABSENT one " + what, x.of(0, what), want[what]);
        }
        due.is("its hours, to its REACH", x.of(2, 3), 14);
        due.is("not to another", x.of(1, 3), 5);
        due.is("it moves up", x.of(2, 8), 1);
        due.is("its LAG then", x.of(2, 4), 10);
        x.absent(2, true);
        due.is("none of its REACH: to all", x.of(1, 3), 22);
        due.is("LEFT", x.told(5), 22);
        x.absent(1, true);
        due.is("all ABSENT: lost", x.told(6), 0);
        due.is("LEFT", x.told(5), 24);
        due.is("no LAGS", x.told(4), 0);
        CanalTurns y = Setups.flat(1, 1, 1);
        y.hours(10);
        y.absent(1, true);
        // 4, 3, 3; the 3 go as 2 and 1.
        due.is("SHARED OUT again", y.of(0, 3), 6);
        due.is("SHARED OUT again", y.of(1, 3), 0);
        due.is("SHARED OUT again", y.of(2, 3), 4);
        y.absent(1, false);
        y.absent(2, true);
        y.hours(11);
        // 4, 4, 3; the rest of what the ABSENT one has is not its own.
        due.is("SHARED OUT again", y.of(0, 3), 6);
        due.is("SHARED OUT again", y.of(1, 3), 5);
        due.is("SHARED OUT again", y.of(2, 3), 0);
    }
}
