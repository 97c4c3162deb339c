/** Promises 26 to 29: see, fits, odds, mean. */
final class SeenSaid extends Said {
    @Override
    void tell() {
        see();
        fits();
        odds();
        mean();
    }

    private void see() {
        of("Promise 26: see");
        says("What is SEEN comes: how many there are", due -> {
            CanalTurns x = Setups.flat(1, 1);
            due.is("see(0, 10)", x.see(0, 10), 1);
            due.is("see(1, 10)", x.see(1, 10), 2);
            due.is("SEEN", x.count(1), 2);
            due.is("HOURS that fit both", x.fits(1), 20);
        });
        says("(field -1: none then, 0, whatever the rest is).", due -> {
            CanalTurns x = Setups.flat(1);
            int[] hours = {0, -1, 97, LEAST_INT, GREATEST_INT};
            for (int h : hours) {
                x.see(0, 50);
                due.is("see(-1, " + h + ")", x.see(-1, h), 0);
                due.is("SEEN", x.count(1), 0);
                due.is("HOURS that fit", x.fits(0), 89);
            }
            due.is("see(-1, 0), no FIELDS", new CanalTurns().see(-1, 0), 0);
            for (int k = 0; k < 5; k++) {
                x.see(0, 1);
            }
            due.is("see(-1, 0), of five", x.see(-1, 0), 0);
            due.is("see(0, 1)", x.see(0, 1), 1);
        });
        says("NONE: field;", due -> {
            CanalTurns x = Setups.flat(1);
            due.is("see(-2, 0)", x.see(-2, 0), NONE);
            due.is("see(1, 0)", x.see(1, 0), NONE);
            due.is("see(MIN, 0)", x.see(LEAST_INT, 0), NONE);
            due.is("see(0, 0), no FIELDS", new CanalTurns().see(0, 0), NONE);
            due.is("SEEN", x.count(1), 0);
        });
        says("BAD: h (0 .. 96);", due -> {
            CanalTurns x = Setups.flat(1);
            due.is("see(0, -1)", x.see(0, -1), BAD);
            due.is("see(0, 97)", x.see(0, 97), BAD);
            due.is("see(0, MAX)", x.see(0, GREATEST_INT), BAD);
            due.is("see(0, 0)", x.see(0, 0), 1);
            due.is("see(0, 96)", x.see(0, 96), 2);
        });
        says("FULL: 5.", due -> {
            CanalTurns x = Setups.flat(1);
            for (int k = 1; k <= 5; k++) {
                due.is("see " + k, x.see(0, 24), k);
            }
            due.is("a sixth", x.see(0, 24), FULL);
            due.is("SEEN", x.count(1), 5);
        });
    }

    private void fits() {
        of("Promise 27: fits");
        says("FITS: what 0 how many, 1 the least;", due -> {
            CanalTurns x = Setups.flat(1, 1);
            due.is("fits(0), none SEEN", x.fits(0), 89);
            due.is("fits(1), none SEEN", x.fits(1), 8);
            x.see(0, 10);
            due.is("fits(0)", x.fits(0), 2);
            due.is("fits(1)", x.fits(1), 19);
        });
        says("-5.", due -> {
            CanalTurns x = Setups.flat(1, 1);
            x.see(0, 3);
            due.is("fits(0), too few", x.fits(0), 0);
            due.is("fits(1), too few", x.fits(1), NOT_ANY);
            x.see(-1, 0);
            x.see(0, 49);
            due.is("fits(0), too many", x.fits(0), 0);
            due.is("fits(1), too many", x.fits(1), NOT_ANY);
        });
        says("NONE.", due -> {
            CanalTurns x = Setups.flat(1);
            due.is("fits(-1)", x.fits(-1), NONE);
            due.is("fits(2)", x.fits(2), NONE);
            due.is("fits(MAX)", x.fits(GREATEST_INT), NONE);
        });
    }

    /** Two FIELDS of which the first has no hour by NIGHT by HOURS 20 .. 27, and one by 28 and 29. */
    private static CanalTurns late() {
        CanalTurns x = Setups.flat(1, 1);
        x.reach(0, 0, 9);
        return x;
    }

    private void odds() {
        of("Promise 28: odds");
        says("ODDS; part 0 above, 1 below the line.", due -> {
            CanalTurns x = late();
            due.is("odds(0, 0)", x.odds(0, 0), 1);
            due.is("odds(0, 1)", x.odds(0, 1), 5);
            due.is("odds(1, 0)", x.odds(1, 0), 1);
            due.is("odds(1, 1)", x.odds(1, 1), 1);
            x.absent(0, true);
            due.is("odds(0, 0), ABSENT", x.odds(0, 0), 0);
            due.is("odds(0, 1), ABSENT", x.odds(0, 1), 1);
        });
        says("NO: field,", due -> {
            CanalTurns x = late();
            due.is("odds(-1, 0)", x.odds(-1, 0), NO);
            due.is("odds(2, 0)", x.odds(2, 0), NO);
            due.is("odds(2, 1)", x.odds(2, 1), NO);
            due.is("odds(MAX, 1)", x.odds(GREATEST_INT, 1), NO);
            due.is("odds(0, 0), no FIELDS", new CanalTurns().odds(0, 0), NO);
        });
        says("part.", due -> {
            CanalTurns x = late();
            due.is("odds(0, -1)", x.odds(0, -1), NO);
            due.is("odds(0, 2)", x.odds(0, 2), NO);
            due.is("odds(0, MIN)", x.odds(0, LEAST_INT), NO);
        });
    }

    private void mean() {
        of("Promise 29: mean");
        says("MEAN; part likewise.", due -> {
            CanalTurns x = Setups.three();
            due.is("mean(0)", x.mean(0), 1430);
            due.is("mean(1)", x.mean(1), 3);
            CanalTurns y = Setups.flat(1, 1, 1, 1);
            y.hours(10);
            due.is("mean(0), 950 by 4", y.mean(0), 475);
            due.is("mean(1), 950 by 4", y.mean(1), 2);
        });
        says("NO.", due -> {
            due.is("mean(0), no FIELDS", new CanalTurns().mean(0), NO);
            due.is("mean(1), no FIELDS", new CanalTurns().mean(1), NO);
            CanalTurns x = Setups.flat(1);
            due.is("mean(-1)", x.mean(-1), NO);
            due.is("mean(2)", x.mean(2), NO);
            due.is("mean(MAX)", x.mean(GREATEST_INT), NO);
        });
    }
}
