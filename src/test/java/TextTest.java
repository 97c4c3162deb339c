/** Promises 11 and 12: feed, read. */
public final class TextTest {
    private static final Due due = new Due();

    public static void main(String[] args) {
        feeding();
        done();
        refusedClauses();
        faults();
        twelve();
        due.end();
    }

    private static void feeding() {
        CanalTurns x = new CanalTurns();
        due.is("feed(-1)", x.feed(-1), -2);
        due.is("feed(128)", x.feed(128), -2);
        due.is("feed(0)", x.feed(0), 1);
        due.is("feed(127)", x.feed(127), 2);
        due.is("count(4)", x.count(4), 2);
        due.is("read", x.read(), -10);
        due.is("empty by a FAULT", x.count(4), 0);
        for (int i = 1; i <= 100; i++) {
            due.is("feed " + i, x.feed('f'), i);
        }
        due.is("feed, full", x.feed('f'), -4);
        due.is("feed(128), full", x.feed(128), -2);
        due.is("count(4)", x.count(4), 100);
        due.is("read", x.read(), -11);
        due.is("feed again", x.feed('h'), 1);
        due.is("feed again", x.feed('9'), 2);
        due.is("read", x.read(), 1);
        due.is("empty", x.count(4), 0);
        due.is("HOURS", x.told(1), 9);
    }

    private static void done() {
        CanalTurns x = new CanalTurns();
        due.is("read", Setups.read(x, "f12;f01;c2325;c349;h08;u3;a0;a1;p1"), 9);
        due.is("FIELDS", x.told(0), 2);
        due.is("REACH", x.of(0, 0), 1);
        due.is("SHARE", x.of(0, 1), 2);
        due.is("REACH", x.of(1, 0), 0);
        due.is("SHARE", x.of(1, 1), 1);
        due.is("FILL", x.reachOf(2, 0), 3);
        due.is("LOSS", x.reachOf(2, 1), 25);
        due.is("FILL", x.reachOf(3, 0), 4);
        due.is("LOSS", x.reachOf(3, 1), 9);
        due.is("HOURS", x.told(1), 8);
        due.is("RULE", x.told(2), 3);
        due.is("ABSENT", x.of(0, 2), 1);
        due.is("ABSENT", x.of(1, 2), 0);
        due.is("nothing of it is left", x.read(), -10);
        due.is("u1;u2", Setups.read(x, "u1;u2"), 2);
        due.is("nothing of it is left", Setups.read(x, "u3;"), -13);
        due.is("RULE", x.told(2), 2);
        due.is("h96", Setups.read(x, "h96"), 1);
        due.is("HOURS", x.told(1), 96);
        due.is("c000", Setups.read(x, "c000;c1905"), 2);
        due.is("FILL", x.reachOf(0, 0), 0);
        due.is("LOSS", x.reachOf(0, 1), 0);
        due.is("FILL", x.reachOf(1, 0), 9);
        due.is("LOSS", x.reachOf(1, 1), 5);
    }

    private static void refusedClauses() {
        CanalTurns x = new CanalTurns();
        due.is("f refused", Setups.read(x, "f41;f00;f90"), 0);
        due.is("c refused", Setups.read(x, "c405;c0326;c0399"), 0);
        due.is("FILL of a refused CLAUSE", x.reachOf(0, 0), 1);
        due.is("h, u refused", Setups.read(x, "h7;h97;h0;u4;u9"), 0);
        due.is("a, p refused", Setups.read(x, "a0;p0;f09;a1;p0"), 2);
        due.is("HOURS", x.told(1), 24);
        due.is("the ninth", Setups.read(x, "f01;f01;f01;f01;f01;f01;f01;f01;a7;a8"), 8);
        due.is("FIELDS", x.told(0), 8);
        due.is("ABSENT", x.of(7, 2), 1);
    }

    private static void fault(String text, int at) {
        CanalTurns x = new CanalTurns();
        x.field(0, 1);
        due.is("read " + text, Setups.read(x, text), -10 - at);
        due.is("nothing done by " + text, x.told(0), 1);
        due.is("nothing done by " + text, x.told(1), 24);
        due.is("THE TEXT behind " + text, x.count(4), 0);
    }

    private static void faults() {
        fault("", 0);
        fault(";", 0);
        fault("x", 0);
        fault("F01", 0);
        fault(" h30", 0);
        fault("h", 1);
        fault("h;", 1);
        fault("h 30", 1);
        fault("h30 ", 3);
        fault("h300", 3);
        fault("h3;", 3);
        fault("h30;", 4);
        fault("h30;;", 4);
        fault("h30;x", 4);
        fault("h30;f", 5);
        fault("h30;f0", 6);
        fault("h30;f0;", 6);
        fault("f0", 2);
        fault("f012", 3);
        fault("f01f01", 3);
        fault("c01", 3);
        fault("c01;", 3);
        fault("c01234", 5);
        fault("u", 1);
        fault("u33", 2);
        fault("a", 1);
        fault("a00", 2);
        fault("p", 1);
        fault("p0p", 2);
        fault("h-8", 1);
        fault("h/", 1);
        fault("h:", 1);
        fault("h30;u0;a0;f01;q", 14);
    }

    private static void twelve() {
        String eleven = "u1;u1;u1;u1;u1;u1;u1;u1;u1;u1;u1";
        CanalTurns x = new CanalTurns();
        due.is("eleven", Setups.read(x, eleven), 11);
        due.is("twelve", Setups.read(x, eleven + ";h9"), 12);
        due.is("twelve", Setups.read(x, eleven + ";h10"), 12);
        due.is("; behind the twelfth", Setups.read(x, eleven + ";u2;"), -10 - 35);
        due.is("thirteen", Setups.read(x, eleven + ";u2;u2"), -10 - 35);
        due.is("twelfth too early", Setups.read(x, eleven + ";u"), -10 - 34);
        due.is("RULE", x.told(2), 1);
        due.is("HOURS", x.told(1), 10);
    }
}
