/** Terms, part 1: REACHES, FIELDS, HOURS, WEEK, RULE. */
final class CanalTermsSaid extends Said {
    @Override
    void tell() {
        of("Terms 1");
        reaches();
        fields();
        hoursWeekRule();
    }

    private void reaches() {
        says("REACHES 0 .. 3 of the canal,", due -> {
            CanalTurns x = new CanalTurns();
            due.is("reachOf(-1, 0)", x.reachOf(-1, 0), NONE);
            due.is("reachOf(0, 0)", x.reachOf(0, 0), 1);
            due.is("reachOf(3, 0)", x.reachOf(3, 0), 1);
            due.is("reachOf(4, 0)", x.reachOf(4, 0), NONE);
        });
        says("from its head on,", due -> {
            CanalTurns x = new CanalTurns();
            x.field(0, 1);
            due.is("LAG on REACH 0, at the head", x.lag(0), 1);
            x.renew(0, 0, 3);
            due.is("LAG on REACH 3, behind all others", x.lag(0), 4);
        });
        says("each with a FILL (0 .. 9 hours; 1 at first)", due -> {
            for (int r = 0; r < 4; r++) {
                CanalTurns x = new CanalTurns();
                due.is("FILL at first", x.reachOf(r, 0), 1);
                due.is("FILL -1", x.reach(r, 0, -1), BAD);
                due.is("FILL 0", x.reach(r, 0, 0), 1);
                due.is("FILL 9", x.reach(r, 0, 9), 0);
                due.is("FILL 10", x.reach(r, 0, 10), BAD);
                due.is("FILL then", x.reachOf(r, 0), 9);
            }
        });
        says("and a LOSS (0 .. 25 of a hundred; 5 at first).", due -> {
            for (int r = 0; r < 4; r++) {
                CanalTurns x = new CanalTurns();
                due.is("LOSS at first", x.reachOf(r, 1), 5);
                due.is("LOSS -1", x.reach(r, 1, -1), BAD);
                due.is("LOSS 0", x.reach(r, 1, 0), 5);
                due.is("LOSS 25", x.reach(r, 1, 25), 0);
                due.is("LOSS 26", x.reach(r, 1, 26), BAD);
                due.is("LOSS then", x.reachOf(r, 1), 25);
            }
        });
    }

    private void fields() {
        says("FIELDS 0 .. 7, as they come,", due -> {
            CanalTurns x = new CanalTurns();
            for (int f = 0; f < 8; f++) {
                due.is("FIELD " + f + ", ahead of its coming", x.of(f, 1), NONE);
                due.is("FIELD " + f + " comes", x.field(0, f + 1), f);
                due.is("SHARE of FIELD " + f, x.of(f, 1), f + 1);
            }
            due.is("a ninth", x.field(0, 1), FULL);
            due.is("FIELD 8", x.of(8, 1), NONE);
            due.is("FIELD -1", x.of(-1, 1), NONE);
        });
        says("each on a REACH,", due -> {
            CanalTurns x = new CanalTurns();
            due.is("on REACH -1", x.field(-1, 1), BAD);
            due.is("on REACH 4", x.field(4, 1), BAD);
            due.is("on REACH 0", x.field(0, 1), 0);
            due.is("on REACH 3", x.field(3, 1), 1);
            due.is("REACH of 0", x.of(0, 0), 0);
            due.is("REACH of 1", x.of(1, 0), 3);
        });
        says("with a SHARE (1 .. 9),", due -> {
            CanalTurns x = new CanalTurns();
            due.is("SHARE 0", x.field(0, 0), BAD);
            due.is("SHARE 10", x.field(0, 10), BAD);
            due.is("SHARE 1", x.field(0, 1), 0);
            due.is("SHARE 9", x.field(0, 9), 1);
            due.is("SHARE of 0", x.of(0, 1), 1);
            due.is("SHARE of 1", x.of(1, 1), 9);
        });
        says("ABSENT or not (not, as it comes).", due -> {
            CanalTurns x = new CanalTurns();
            for (int f = 0; f < 8; f++) {
                x.field(0, 1);
                due.is("ABSENT, as it comes", x.of(f, 2), 0);
                x.absent(f, true);
                due.is("ABSENT then", x.of(f, 2), 1);
            }
        });
        says("ABSENT or not (not, as it comes).", due -> {
            CanalTurns x = new CanalTurns();
            x.field(0, 1);
            x.image();
            x.field(0, 1);
            x.absent(1, true);
            x.undo();
            x.field(0, 1);
            due.is("ABSENT, where another one of its number was", x.of(1, 2), 0);
        });
    }

    private void hoursWeekRule() {
        says("HOURS of a WEEK: 8 .. 96 (24 at first).", due -> {
            CanalTurns x = new CanalTurns();
            due.is("HOURS at first", x.told(1), 24);
            due.is("HOURS 7", x.hours(7), BAD);
            due.is("HOURS 97", x.hours(97), BAD);
            due.is("HOURS 8", x.hours(8), 24);
            due.is("HOURS then", x.told(1), 8);
            due.is("HOURS 96", x.hours(96), 8);
            due.is("HOURS then", x.told(1), 96);
        });
        says("WEEK: 0 .. 999 (0 at first).", due -> {
            CanalTurns x = new CanalTurns();
            due.is("WEEK at first", x.told(3), 0);
            due.is("the last WEEK", Setups.passTo(x, 999), 999);
            due.is("one behind it", x.pass(1), FULL);
            due.is("one back", x.pass(-1), BAD);
            due.is("WEEK then", x.told(3), 999);
        });
        says("RULE: 0 .. 3 (0 at first).", due -> {
            CanalTurns x = new CanalTurns();
            due.is("RULE at first", x.told(2), 0);
            due.is("RULE -1", x.rule(-1), BAD);
            due.is("RULE 4", x.rule(4), BAD);
            due.is("RULE 3", x.rule(3), 0);
            due.is("RULE then", x.told(2), 3);
            due.is("RULE 0", x.rule(0), 3);
            due.is("RULE then", x.told(2), 0);
        });
    }
}
