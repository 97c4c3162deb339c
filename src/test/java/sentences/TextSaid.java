/** Promises 11 and 12: feed, read. */
final class TextSaid extends Said {
    @Override
    void tell() {
        feed();
        read();
    }

    private void feed() {
        of("Promise 11: feed");
        says("A sign (0 .. 127) comes behind THE TEXT's: how many it has.", due -> {
            CanalTurns x = new CanalTurns();
            due.is("feed(0)", x.feed(0), 1);
            due.is("feed(127)", x.feed(127), 2);
            due.is("THE TEXT", x.count(4), 2);
            x.read();
            due.is("feed, of a new one", x.feed('u'), 1);
            due.is("feed behind it", x.feed('2'), 2);
            due.is("read", x.read(), 1);
            due.is("RULE", x.told(2), 2);
        });
        says("BAD;", due -> {
            CanalTurns x = new CanalTurns();
            due.is("feed(-1)", x.feed(-1), BAD);
            due.is("feed(128)", x.feed(128), BAD);
            due.is("feed('u' + 256)", x.feed('u' + 256), BAD);
            due.is("feed(MIN)", x.feed(LEAST_INT), BAD);
            due.is("feed(MAX)", x.feed(GREATEST_INT), BAD);
            due.is("THE TEXT", x.count(4), 0);
        });
        says("FULL.", due -> {
            CanalTurns x = new CanalTurns();
            for (int n = 1; n <= 100; n++) {
                due.is("feed " + n, x.feed('h'), n);
            }
            due.is("feed 101", x.feed('h'), FULL);
            due.is("feed(0)", x.feed(0), FULL);
            due.is("THE TEXT", x.count(4), 100);
            x.read();
            due.is("feed, of a new one", x.feed('h'), 1);
        });
    }

    private void read() {
        of("Promise 12: read");
        says("THE TEXT, which is empty then (by a FAULT, too),", due -> {
            CanalTurns x = new CanalTurns();
            Setups.feed(x, "u1;u2");
            due.is("read", x.read(), 2);
            due.is("THE TEXT", x.count(4), 0);
            due.is("read, empty", x.read(), -10);
            Setups.feed(x, "u3;x");
            due.is("read, with a FAULT", x.read(), -13);
            due.is("THE TEXT", x.count(4), 0);
            due.is("read, empty", x.read(), -10);
            due.is("RULE", x.told(2), 2);
            due.is("u, where 3 was behind it", Setups.read(x, "u"), -11);
            due.is("RULE", x.told(2), 2);
            Setups.read(x, "h96");
            due.is("h9, where 6 was behind it", Setups.read(x, "h9"), 1);
            due.is("HOURS", x.told(1), 9);
        });
        says("is a set-up: how many CLAUSES were done;", due -> {
            due.is("one", Setups.read(new CanalTurns(), "h30"), 1);
            due.is("three of four", Setups.read(new CanalTurns(), "h30;f01;u9;a0"), 3);
            due.is("none of two", Setups.read(new CanalTurns(), "h7;a0"), 0);
            due.is("twelve", Setups.read(new CanalTurns(), "u1;u1;u1;u1;u1;u1;u1;u1;u1;u1;u1;u1"), 12);
        });
        says("-10 less the FAULT.", due -> {
            due.is("at 0", Setups.read(new CanalTurns(), "x"), -10);
            due.is("at 0, empty", new CanalTurns().read(), -10);
            due.is("at 1", Setups.read(new CanalTurns(), "u"), -11);
            due.is("at 2", Setups.read(new CanalTurns(), "u12"), -12);
            due.is("at 35", Setups.read(new CanalTurns(), "u1;u1;u1;u1;u1;u1;u1;u1;u1;u1;u1;u1;"), -45);
            due.is("at 71", Setups.read(new CanalTurns(), "c0125;c0125;c0125;c0125;c0125;c0125;c0125;c0125;c0125;"
                + "c0125;c0125;c0125;"), -81);
        });
    }
}
