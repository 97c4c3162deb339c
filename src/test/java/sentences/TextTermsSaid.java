/** Terms, part 1: set-ups read from THE TEXT. */
final class TextTermsSaid extends Said {
    @Override
    void tell() {
        of("Terms 1");
        sizes();
        clauses();
        digits();
        faults();
        doing();
    }

    private static String repeated(String clause, int n) {
        return (clause + ";").repeat(n - 1) + clause;
    }

    /** Read on a canal with FIELDS 0 and 1. */
    private static void reads(Due due, String text, int want) {
        due.is("read " + text, Setups.read(Setups.flat(1, 1), text), want);
    }

    private static void faultAt(Due due, String text, int at) {
        reads(due, text, -10 - at);
    }

    private void sizes() {
        says("A set-up is read from THE TEXT (bytes, 100 at most):", due -> {
            CanalTurns x = new CanalTurns();
            due.is("99 bytes", Setups.feed(x, "h".repeat(99)), 99);
            due.is("100 bytes", x.feed('h'), 100);
            due.is("101 bytes", x.feed('h'), FULL);
            due.is("THE TEXT", x.count(4), 100);
        });
        says("CLAUSES, 1 to 12,", due -> {
            faultAt(due, "", 0);
            reads(due, repeated("u1", 1), 1);
            reads(due, repeated("u1", 2), 2);
            reads(due, repeated("u1", 11), 11);
            reads(due, repeated("u1", 12), 12);
            faultAt(due, repeated("u1", 13), 35);
            reads(due, repeated("c0125", 12), 12);
        });
        says("with ; between", due -> {
            faultAt(due, "u1u1", 2);
            faultAt(due, "u1,u1", 2);
            faultAt(due, "u1;;u1", 3);
            faultAt(due, ";u1", 0);
            reads(due, "u1;u1", 2);
        });
        says("(none behind the twelfth):", due -> {
            faultAt(due, repeated("u1", 12) + ";", 35);
            faultAt(due, repeated("u1", 11) + ";", 33);
        });
    }

    private void clauses() {
        says("f REACH SHARE (a FIELD comes);", due -> {
            CanalTurns x = new CanalTurns();
            due.is("read", Setups.read(x, "f01;f39"), 2);
            due.is("FIELDS", x.told(0), 2);
            due.is("REACH of 0", x.of(0, 0), 0);
            due.is("SHARE of 0", x.of(0, 1), 1);
            due.is("REACH of 1", x.of(1, 0), 3);
            due.is("SHARE of 1", x.of(1, 1), 9);
            due.is("ABSENT", x.of(0, 2), 0);
        });
        says("c REACH FILL LOSS;", due -> {
            CanalTurns x = new CanalTurns();
            due.is("read", Setups.read(x, "c000;c3925"), 2);
            due.is("FILL of 0", x.reachOf(0, 0), 0);
            due.is("LOSS of 0", x.reachOf(0, 1), 0);
            due.is("FILL of 3", x.reachOf(3, 0), 9);
            due.is("LOSS of 3", x.reachOf(3, 1), 25);
            due.is("FILL of 1", x.reachOf(1, 0), 1);
            due.is("LOSS of 1", x.reachOf(1, 1), 5);
        });
        says("h HOURS;", due -> {
            CanalTurns x = new CanalTurns();
            due.is("read h8", Setups.read(x, "h8"), 1);
            due.is("HOURS", x.told(1), 8);
            due.is("read h96", Setups.read(x, "h96"), 1);
            due.is("HOURS", x.told(1), 96);
        });
        says("u RULE;", due -> {
            CanalTurns x = new CanalTurns();
            due.is("read u3", Setups.read(x, "u3"), 1);
            due.is("RULE", x.told(2), 3);
            due.is("read u0", Setups.read(x, "u0"), 1);
            due.is("RULE", x.told(2), 0);
        });
        says("a i (FIELD i is ABSENT), p i (it isn't).", due -> {
            CanalTurns x = Setups.flat(1, 1, 1, 1, 1, 1, 1, 1);
            due.is("read a0;a7", Setups.read(x, "a0;a7"), 2);
            due.is("ABSENT 0", x.of(0, 2), 1);
            due.is("ABSENT 7", x.of(7, 2), 1);
            due.is("read a0;p7;p1", Setups.read(x, "a0;p7;p1"), 3);
            due.is("ABSENT 0, told again", x.of(0, 2), 1);
            due.is("ABSENT 7", x.of(7, 2), 0);
            due.is("ABSENT 1, told again", x.of(1, 2), 0);
        });
    }

    private void digits() {
        says("REACH, SHARE, FILL, RULE, i: a digit each;", due -> {
            faultAt(due, "f", 1);
            faultAt(due, "f0", 2);
            reads(due, "f09", 1);
            faultAt(due, "f010", 3);
            faultAt(due, "c0", 2);
            faultAt(due, "c09", 3);
            faultAt(due, "u", 1);
            reads(due, "u3", 1);
            faultAt(due, "u03", 2);
            faultAt(due, "a", 1);
            reads(due, "a1", 1);
            faultAt(due, "a01", 2);
            faultAt(due, "p", 1);
            reads(due, "p1", 1);
            faultAt(due, "p01", 2);
        });
        says("REACH, SHARE, FILL, RULE, i: a digit each;", due -> {
            faultAt(due, "u/", 1);
            faultAt(due, "u:", 1);
            faultAt(due, "u-1", 1);
            faultAt(due, "fa1", 1);
            faultAt(due, "f0a", 2);
            reads(due, "u0;u9", 1);
        });
        says("LOSS, HOURS: 1 or 2 digits.", due -> {
            faultAt(due, "h", 1);
            reads(due, "h8", 1);
            reads(due, "h08", 1);
            reads(due, "h96", 1);
            faultAt(due, "h096", 3);
            faultAt(due, "c01", 3);
            reads(due, "c015", 1);
            reads(due, "c0105", 1);
            reads(due, "c0125", 1);
            faultAt(due, "c01025", 5);
            faultAt(due, "h/", 1);
            faultAt(due, "h:", 1);
            faultAt(due, "h9/", 2);
            faultAt(due, "h9:", 2);
        });
        says("LOSS, HOURS: 1 or 2 digits.", due -> {
            CanalTurns x = new CanalTurns();
            due.is("read h08;c019;c1109", Setups.read(x, "h08;c019;c1109"), 3);
            due.is("HOURS, of 08", x.told(1), 8);
            due.is("LOSS, of 9", x.reachOf(0, 1), 9);
            due.is("LOSS, of 09", x.reachOf(1, 1), 9);
        });
        says("Nothing stands between (no blanks).", due -> {
            faultAt(due, " u1", 0);
            faultAt(due, "u 1", 1);
            faultAt(due, "u1 ", 2);
            faultAt(due, "u1; u1", 3);
            faultAt(due, "h9 6", 2);
            faultAt(due, "c0 1 5", 2);
            faultAt(due, "u1\n", 2);
            faultAt(due, "u1" + (char) 0, 2);
        });
    }

    private void faults() {
        says("The FAULT: the place of the first byte with which none begins so", due -> {
            faultAt(due, "x", 0);
            faultAt(due, "U1", 0);
            faultAt(due, "uu", 1);
            faultAt(due, "u1;x", 3);
            faultAt(due, "u1;h9;f0;", 8);
            faultAt(due, "u1;h9;f0x;x", 8);
            faultAt(due, "h".repeat(100), 1);
        });
        says("(the end of THE TEXT, if it ends too early).", due -> {
            faultAt(due, "", 0);
            faultAt(due, "u", 1);
            faultAt(due, "u1;", 3);
            faultAt(due, "u1;f", 4);
            faultAt(due, "u1;f0", 5);
            faultAt(due, "u1;c01", 6);
            faultAt(due, repeated("u1", 11) + ";u", 34);
        });
    }

    private void doing() {
        says("Without FAULT they are done,", due -> {
            CanalTurns x = new CanalTurns();
            due.is("read, with a FAULT", Setups.read(x, "f01;h30;u1;c000;x"), -10 - 16);
            due.is("FIELDS", x.told(0), 0);
            due.is("HOURS", x.told(1), 24);
            due.is("RULE", x.told(2), 0);
            due.is("FILL", x.reachOf(0, 0), 1);
            due.is("read, without", Setups.read(x, "f01;h30;u1;c000"), 4);
            due.is("FIELDS", x.told(0), 1);
            due.is("HOURS", x.told(1), 30);
            due.is("RULE", x.told(2), 1);
            due.is("FILL", x.reachOf(0, 0), 0);
        });
        says("one behind the other;", due -> {
            CanalTurns x = new CanalTurns();
            due.is("read", Setups.read(x, "a0;f12;a0;h30;h40;f01;p0;a1"), 7);
            due.is("HOURS, told twice", x.told(1), 40);
            due.is("ABSENT 0, told behind its coming", x.of(0, 2), 0);
            due.is("ABSENT 1", x.of(1, 2), 1);
        });
        says("those that would be refused aren't.", due -> {
            reads(due, "f01;f40;f41;f00;f39", 2);
            reads(due, "c400;c0126;c0199;c300", 1);
            reads(due, "h7;h97;h0;h00;h8", 1);
            reads(due, "u4;u9;u3", 1);
            reads(due, "a2;a9;p2;p9;a1", 1);
            reads(due, "u4", 0);
        });
        says("those that would be refused aren't.", due -> {
            CanalTurns x = new CanalTurns();
            due.is("nine FIELDS", Setups.read(x, repeated("f01", 9)), 8);
            due.is("FIELDS", x.told(0), 8);
            due.is("a LOSS, a REACH not as told", Setups.read(x, "c0926;c4925"), 0);
            due.is("FILL of a refused CLAUSE", x.reachOf(0, 0), 1);
            due.is("LOSS of a refused CLAUSE", x.reachOf(0, 1), 5);
        });
    }
}
