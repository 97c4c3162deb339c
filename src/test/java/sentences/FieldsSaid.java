/** Promises 1 to 10: a new object, field, renew, absent, reach, reachOf, hours, rule, pass, of. */
final class FieldsSaid extends Said {
    @Override
    void tell() {
        newObject();
        field();
        renew();
        absent();
        reach();
        reachOf();
        hours();
        rule();
        pass();
        ofOne();
    }

    private void newObject() {
        of("Promise 1: A new object");
        says("No FIELDS.", due -> {
            CanalTurns x = new CanalTurns();
            due.is("told(0)", x.told(0), 0);
            due.is("count(0)", x.count(0), 0);
            due.is("image()", x.image(), 0);
            due.is("of(0, 0)", x.of(0, 0), NONE);
            due.is("line(0)", x.line(0), NONE);
            due.is("turn(0)", x.turn(0), NONE);
            for (int r = 0; r < 4; r++) {
                due.is("FIELDS on REACH " + r, x.reachOf(r, 2), 0);
            }
        });
        says("No FIELDS.", due -> {
            CanalTurns x = new CanalTurns();
            x.field(0, 1);
            due.is("FIELDS of another object", new CanalTurns().told(0), 0);
            due.is("FIELDS of the one", x.told(0), 1);
        });
    }

    private void field() {
        of("Promise 2: field");
        says("A FIELD: its number.", due -> {
            CanalTurns x = new CanalTurns();
            for (int f = 0; f < 8; f++) {
                due.is("field " + f, x.field(f % 4, f + 1), f);
                due.is("FIELDS", x.told(0), f + 1);
            }
        });
        says("BAD: reach,", due -> {
            CanalTurns x = new CanalTurns();
            due.is("field(-1, 1)", x.field(-1, 1), BAD);
            due.is("field(4, 1)", x.field(4, 1), BAD);
            due.is("field(MIN, 1)", x.field(LEAST_INT, 1), BAD);
            due.is("field(MAX, 1)", x.field(GREATEST_INT, 1), BAD);
            due.is("FIELDS", x.told(0), 0);
            due.is("field(0, 1)", x.field(0, 1), 0);
            due.is("field(3, 1)", x.field(3, 1), 1);
        });
        says("share;", due -> {
            CanalTurns x = new CanalTurns();
            due.is("field(0, 0)", x.field(0, 0), BAD);
            due.is("field(0, 10)", x.field(0, 10), BAD);
            due.is("field(0, -1)", x.field(0, -1), BAD);
            due.is("field(0, MAX)", x.field(0, GREATEST_INT), BAD);
            due.is("FIELDS", x.told(0), 0);
            due.is("field(0, 1)", x.field(0, 1), 0);
            due.is("field(0, 9)", x.field(0, 9), 1);
        });
        says("FULL: 8.", due -> {
            CanalTurns x = new CanalTurns();
            for (int f = 0; f < 8; f++) {
                due.is("field " + f, x.field(0, 1), f);
            }
            due.is("a ninth", x.field(0, 1), FULL);
            due.is("a ninth, again", x.field(3, 9), FULL);
            due.is("FIELDS", x.told(0), 8);
            due.is("REACH of the last", x.of(7, 0), 0);
        });
    }

    private void renew() {
        of("Promise 3: renew");
        says("Of a FIELD what 0 REACH, 1 SHARE becomes v: what it was.", due -> {
            CanalTurns x = Setups.flat(4, 5);
            due.is("renew(1, 0, 3)", x.renew(1, 0, 3), 0);
            due.is("renew(1, 0, 2)", x.renew(1, 0, 2), 3);
            due.is("renew(1, 1, 9)", x.renew(1, 1, 9), 5);
            due.is("renew(1, 1, 1)", x.renew(1, 1, 1), 9);
            due.is("REACH", x.of(1, 0), 2);
            due.is("SHARE", x.of(1, 1), 1);
            due.is("another's REACH", x.of(0, 0), 0);
            due.is("another's SHARE", x.of(0, 1), 4);
            due.is("renew(1, 0, 2), as it is", x.renew(1, 0, 2), 2);
        });
        says("NONE: field,", due -> {
            CanalTurns x = Setups.flat(1, 1);
            due.is("renew(-1, 0, 0)", x.renew(-1, 0, 0), NONE);
            due.is("renew(2, 0, 0)", x.renew(2, 0, 0), NONE);
            due.is("renew(MAX, 1, 1)", x.renew(GREATEST_INT, 1, 1), NONE);
            due.is("renew(1, 0, 0)", x.renew(1, 0, 0), 0);
            due.is("without FIELDS", new CanalTurns().renew(0, 0, 0), NONE);
        });
        says("what;", due -> {
            CanalTurns x = Setups.flat(1);
            due.is("renew(0, -1, 1)", x.renew(0, -1, 1), NONE);
            due.is("renew(0, 2, 1)", x.renew(0, 2, 1), NONE);
            due.is("renew(0, MIN, 1)", x.renew(0, LEAST_INT, 1), NONE);
        });
        says("BAD: v.", due -> {
            CanalTurns x = Setups.flat(4);
            due.is("REACH -1", x.renew(0, 0, -1), BAD);
            due.is("REACH 4", x.renew(0, 0, 4), BAD);
            due.is("SHARE 0", x.renew(0, 1, 0), BAD);
            due.is("SHARE 10", x.renew(0, 1, 10), BAD);
            due.is("SHARE MAX", x.renew(0, 1, GREATEST_INT), BAD);
            due.is("REACH stays", x.of(0, 0), 0);
            due.is("SHARE stays", x.of(0, 1), 4);
            due.is("REACH 3", x.renew(0, 0, 3), 0);
            due.is("REACH 0", x.renew(0, 0, 0), 3);
            due.is("SHARE 9", x.renew(0, 1, 9), 4);
            due.is("SHARE 1", x.renew(0, 1, 1), 9);
        });
    }

    private void absent() {
        of("Promise 4: absent");
        says("A FIELD is ABSENT, or not: what it was (1, 0).", due -> {
            CanalTurns x = Setups.flat(1, 1, 1, 1, 1, 1, 1, 1);
            for (int f = 0; f < 8; f += 7) {
                due.is("it wasn't", x.absent(f, true), 0);
                due.is("it was", x.absent(f, true), 1);
                due.is("ABSENT", x.of(f, 2), 1);
                due.is("it was", x.absent(f, false), 1);
                due.is("it wasn't", x.absent(f, false), 0);
                due.is("ABSENT", x.of(f, 2), 0);
            }
            x.absent(3, true);
            due.is("the one ahead", x.of(2, 2), 0);
            due.is("the one behind", x.of(4, 2), 0);
        });
        says("NONE.", due -> {
            CanalTurns x = Setups.flat(1, 1);
            due.is("absent(-1, true)", x.absent(-1, true), NONE);
            due.is("absent(2, true)", x.absent(2, true), NONE);
            due.is("absent(2, false)", x.absent(2, false), NONE);
            due.is("absent(32, true)", x.absent(32, true), NONE);
            due.is("TURNS", x.told(7), 2);
            x.field(0, 1);
            due.is("ABSENT, of one that comes then", x.of(2, 2), 0);
        });
    }

    private void reach() {
        of("Promise 5: reach");
        says("Of a REACH what 0 FILL, 1 LOSS becomes v: what it was.", due -> {
            CanalTurns x = new CanalTurns();
            due.is("reach(3, 0, 7)", x.reach(3, 0, 7), 1);
            due.is("reach(3, 1, 17)", x.reach(3, 1, 17), 5);
            due.is("reach(3, 0, 6)", x.reach(3, 0, 6), 7);
            due.is("reach(3, 1, 16)", x.reach(3, 1, 16), 17);
            due.is("FILL", x.reachOf(3, 0), 6);
            due.is("LOSS", x.reachOf(3, 1), 16);
            due.is("another's FILL", x.reachOf(2, 0), 1);
            due.is("another's LOSS", x.reachOf(2, 1), 5);
        });
        says("NONE: reach,", due -> {
            CanalTurns x = new CanalTurns();
            due.is("reach(-1, 0, 0)", x.reach(-1, 0, 0), NONE);
            due.is("reach(4, 0, 0)", x.reach(4, 0, 0), NONE);
            due.is("reach(4, 1, 0)", x.reach(4, 1, 0), NONE);
            due.is("reach(MIN, 1, 0)", x.reach(LEAST_INT, 1, 0), NONE);
        });
        says("what;", due -> {
            CanalTurns x = new CanalTurns();
            due.is("reach(0, -1, 0)", x.reach(0, -1, 0), NONE);
            due.is("reach(0, 2, 0)", x.reach(0, 2, 0), NONE);
            due.is("reach(0, MAX, 0)", x.reach(0, GREATEST_INT, 0), NONE);
        });
        says("BAD: v.", due -> {
            CanalTurns x = new CanalTurns();
            due.is("FILL -1", x.reach(0, 0, -1), BAD);
            due.is("FILL 10", x.reach(0, 0, 10), BAD);
            due.is("LOSS -1", x.reach(0, 1, -1), BAD);
            due.is("LOSS 26", x.reach(0, 1, 26), BAD);
            due.is("FILL stays", x.reachOf(0, 0), 1);
            due.is("LOSS stays", x.reachOf(0, 1), 5);
            due.is("FILL 9", x.reach(0, 0, 9), 1);
            due.is("FILL 0", x.reach(0, 0, 0), 9);
            due.is("LOSS 25", x.reach(0, 1, 25), 5);
            due.is("LOSS 0", x.reach(0, 1, 0), 25);
        });
    }

    private void reachOf() {
        of("Promise 6: reachOf");
        says("Of a REACH what 0 FILL, 1 LOSS, 2 how many FIELDS.", due -> {
            CanalTurns x = new CanalTurns();
            x.reach(2, 0, 9);
            x.reach(2, 1, 25);
            for (int f = 0; f < 8; f++) {
                x.field(f < 6 ? 2 : 3, 1);
            }
            x.absent(0, true);
            due.is("FILL", x.reachOf(2, 0), 9);
            due.is("LOSS", x.reachOf(2, 1), 25);
            due.is("FIELDS on 2, with an ABSENT one", x.reachOf(2, 2), 6);
            due.is("FIELDS on 3", x.reachOf(3, 2), 2);
            due.is("FIELDS on 0", x.reachOf(0, 2), 0);
            x.renew(7, 0, 0);
            due.is("FIELDS on 3, one less", x.reachOf(3, 2), 1);
            due.is("FIELDS on 0, one more", x.reachOf(0, 2), 1);
        });
        says("NONE.", due -> {
            CanalTurns x = new CanalTurns();
            for (int what = 0; what < 3; what++) {
                due.is("REACH -1", x.reachOf(-1, what), NONE);
                due.is("REACH 4", x.reachOf(4, what), NONE);
                due.is("REACH MIN", x.reachOf(LEAST_INT, what), NONE);
            }
            due.is("what -1", x.reachOf(0, -1), NONE);
            due.is("what 3", x.reachOf(0, 3), NONE);
            due.is("what MAX", x.reachOf(0, GREATEST_INT), NONE);
        });
    }

    private void hours() {
        of("Promise 7: hours");
        says("HOURS become h: what they were.", due -> {
            CanalTurns x = new CanalTurns();
            due.is("hours(8)", x.hours(8), 24);
            due.is("hours(96)", x.hours(96), 8);
            due.is("hours(96) again", x.hours(96), 96);
            due.is("HOURS", x.told(1), 96);
        });
        says("BAD.", due -> {
            CanalTurns x = new CanalTurns();
            due.is("hours(7)", x.hours(7), BAD);
            due.is("hours(97)", x.hours(97), BAD);
            due.is("hours(0)", x.hours(0), BAD);
            due.is("hours(-8)", x.hours(-8), BAD);
            due.is("hours(MAX)", x.hours(GREATEST_INT), BAD);
            due.is("HOURS", x.told(1), 24);
        });
    }

    private void rule() {
        of("Promise 8: rule");
        says("RULE becomes r: what it was.", due -> {
            CanalTurns x = new CanalTurns();
            for (int r = 1; r < 4; r++) {
                due.is("rule(" + r + ")", x.rule(r), r - 1);
                due.is("RULE", x.told(2), r);
            }
            due.is("rule(0)", x.rule(0), 3);
        });
        says("BAD.", due -> {
            CanalTurns x = new CanalTurns();
            x.rule(2);
            due.is("rule(-1)", x.rule(-1), BAD);
            due.is("rule(4)", x.rule(4), BAD);
            due.is("rule(MIN)", x.rule(LEAST_INT), BAD);
            due.is("RULE", x.told(2), 2);
        });
    }

    private void pass() {
        of("Promise 9: pass");
        says("n WEEKS (0 .. 52) go by: WEEK then.", due -> {
            CanalTurns x = new CanalTurns();
            due.is("pass(0)", x.pass(0), 0);
            due.is("pass(1)", x.pass(1), 1);
            due.is("pass(52)", x.pass(52), 53);
            due.is("WEEK", x.told(3), 53);
        });
        says("BAD;", due -> {
            CanalTurns x = new CanalTurns();
            x.pass(9);
            due.is("pass(-1)", x.pass(-1), BAD);
            due.is("pass(53)", x.pass(53), BAD);
            due.is("pass(MAX)", x.pass(GREATEST_INT), BAD);
            due.is("pass(MIN)", x.pass(LEAST_INT), BAD);
            due.is("WEEK", x.told(3), 9);
        });
        says("FULL: it would be above 999.", due -> {
            CanalTurns x = new CanalTurns();
            Setups.passTo(x, 947);
            due.is("pass(52), to 999", x.pass(52), 999);
            due.is("pass(1)", x.pass(1), FULL);
            due.is("pass(52)", x.pass(52), FULL);
            due.is("WEEK", x.told(3), 999);
            due.is("pass(0), to 999", x.pass(0), 999);
            CanalTurns y = new CanalTurns();
            Setups.passTo(y, 948);
            due.is("pass(52), to 1000", y.pass(52), FULL);
            due.is("WEEK stays", y.told(3), 948);
            due.is("pass(51), to 999", y.pass(51), 999);
        });
    }

    /** FIELDS 0, 1 on REACHES 1, 0, and 2, ABSENT, on 2: 1 has 1 to 12, 0 has 13 to 24. */
    private static CanalTurns oneAway() {
        CanalTurns x = new CanalTurns();
        x.field(1, 2);
        x.field(0, 2);
        x.field(2, 5);
        x.absent(2, true);
        return x;
    }

    private void ofOne() {
        of("Promise 10: of");
        says("Of a FIELD what 0 REACH, 1 SHARE, 2 ABSENT (1, 0), 3 hours it HAS,", due -> {
            CanalTurns x = oneAway();
            int[][] want = {{1, 2, 0, 11}, {0, 2, 0, 11}, {2, 5, 1, 0}};
            for (int f = 0; f < 3; f++) {
                for (int what = 0; what < 4; what++) {
                    due.is("of(" + f + ", " + what + ")", x.of(f, what), want[f][what]);
                }
            }
        });
        says("4 BEGINS (-5: ABSENT),", due -> {
            CanalTurns x = oneAway();
            due.is("the second", x.of(0, 4), 13);
            due.is("the first", x.of(1, 4), 1);
            due.is("ABSENT", x.of(2, 4), NOT_ANY);
            x.reach(0, 0, 0);
            due.is("the first, without LAG", x.of(1, 4), 0);
        });
        says("5 ENDS (-5),", due -> {
            CanalTurns x = oneAway();
            due.is("the second", x.of(0, 5), 24);
            due.is("the first", x.of(1, 5), 12);
            due.is("ABSENT", x.of(2, 5), NOT_ANY);
        });
        says("6 hours by NIGHT, 7 WATER,", due -> {
            CanalTurns x = oneAway();
            due.is("by NIGHT, 13 .. 23", x.of(0, 6), 6);
            due.is("by NIGHT, 1 .. 11", x.of(1, 6), 5);
            due.is("by NIGHT, ABSENT", x.of(2, 6), 0);
            due.is("WATER on REACH 1", x.of(0, 7), 990);
            due.is("WATER on REACH 0", x.of(1, 7), 1045);
            due.is("WATER, ABSENT", x.of(2, 7), 0);
        });
        says("Of a FIELD what", due -> {
            CanalTurns x = Setups.flat(1, 1);
            x.trade(0, 1, 2);
            int[][] want = {{0, 1, 0, 10, 0, 10, 6, 950, 0}, {0, 1, 0, 14, 10, 24, 6, 1330, 1}};
            for (int f = 0; f < 2; f++) {
                for (int what = 0; what < 9; what++) {
                    due.is("of(" + f + ", " + what + "), with a TRADE", x.of(f, what), want[f][what]);
                }
            }
            x.trade(0, 1, 10);
            due.is("by NIGHT, without hours", x.of(0, 6), 0);
            due.is("by NIGHT, with all", x.of(1, 6), 12);
        });
        says("8 which TURN (from 0; -5).", due -> {
            CanalTurns x = oneAway();
            due.is("the second", x.of(0, 8), 1);
            due.is("the first", x.of(1, 8), 0);
            due.is("ABSENT", x.of(2, 8), NOT_ANY);
            CanalTurns y = Setups.flat(1, 1, 1, 1, 1, 1, 1, 1);
            due.is("the last of eight", y.of(7, 8), 7);
        });
        says("NONE.", due -> {
            CanalTurns x = oneAway();
            for (int what = 0; what < 9; what++) {
                due.is("FIELD -1", x.of(-1, what), NONE);
                due.is("FIELD 3", x.of(3, what), NONE);
                due.is("FIELD MAX", x.of(GREATEST_INT, what), NONE);
            }
            due.is("what -1", x.of(0, -1), NONE);
            due.is("what 9", x.of(0, 9), NONE);
            due.is("what -1, ABSENT", x.of(2, -1), NONE);
            due.is("what 9, ABSENT", x.of(2, 9), NONE);
        });
    }
}
