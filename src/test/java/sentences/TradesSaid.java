/** Promises 19 to 25: trade, undoTrade, tradeOf, chain, over, uneven, evenest. */
final class TradesSaid extends Said {
    @Override
    void tell() {
        trade();
        undoTrade();
        tradeOf();
        chain();
        over();
        uneven();
        evenest();
    }

    private void trade() {
        of("Promise 19: trade");
        says("A TRADE comes: FIELD a gives h hours to b: how many TRADES there are.", due -> {
            CanalTurns x = Setups.flat(1, 1, 1);
            due.is("trade(0, 1, 8)", x.trade(0, 1, 8), 1);
            due.is("trade(1, 2, 5)", x.trade(1, 2, 5), 2);
            int[] want = {0, 11, 13};
            for (int f = 0; f < 3; f++) {
                due.is("FIELD " + f + " HAS", x.of(f, 3), want[f]);
            }
            due.is("TRADES", x.told(9), 2);
        });
        says("NONE: a, b,", due -> {
            CanalTurns x = Setups.flat(1, 1);
            due.is("trade(-1, 0, 1)", x.trade(-1, 0, 1), NONE);
            due.is("trade(2, 0, 1)", x.trade(2, 0, 1), NONE);
            due.is("trade(0, -1, 1)", x.trade(0, -1, 1), NONE);
            due.is("trade(0, 2, 1)", x.trade(0, 2, 1), NONE);
            due.is("trade(MAX, MIN, 1)", x.trade(GREATEST_INT, LEAST_INT, 1), NONE);
            due.is("without FIELDS", new CanalTurns().trade(0, 1, 1), NONE);
            due.is("TRADES", x.told(9), 0);
        });
        says("or they are one;", due -> {
            CanalTurns x = Setups.flat(1, 1);
            due.is("trade(0, 0, 1)", x.trade(0, 0, 1), NONE);
            due.is("trade(1, 1, 1)", x.trade(1, 1, 1), NONE);
            due.is("trade(1, 0, 1)", x.trade(1, 0, 1), 1);
        });
        says("BAD: h (1 .. 96);", due -> {
            CanalTurns x = Setups.flat(1, 1);
            x.hours(96);
            due.is("0 hours", x.trade(0, 1, 0), BAD);
            due.is("-1 hours", x.trade(0, 1, -1), BAD);
            due.is("97 hours", x.trade(0, 1, 97), BAD);
            due.is("the greatest int of hours", x.trade(0, 1, GREATEST_INT), BAD);
            due.is("1 hour", x.trade(0, 1, 1), 1);
            due.is("47 hours", x.trade(0, 1, 47), 2);
            due.is("96 hours", x.trade(1, 0, 96), 3);
        });
        says("STATE: one is ABSENT,", due -> {
            CanalTurns x = Setups.flat(1, 1, 1);
            x.absent(1, true);
            due.is("a is ABSENT", x.trade(1, 0, 1), STATE);
            due.is("b is ABSENT", x.trade(0, 1, 1), STATE);
            due.is("none of both is", x.trade(0, 2, 1), 1);
        });
        says("a HAS fewer;", due -> {
            CanalTurns x = Setups.flat(1, 1);
            due.is("13 of 12", x.trade(0, 1, 13), STATE);
            due.is("12 of 12", x.trade(0, 1, 12), 1);
            due.is("1 of 0", x.trade(0, 1, 1), STATE);
            due.is("25 of 24", x.trade(1, 0, 25), STATE);
            due.is("24 of 24", x.trade(1, 0, 24), 2);
        });
        says("FULL: 12.", due -> {
            CanalTurns x = Setups.flat(1, 1);
            for (int k = 1; k <= 12; k++) {
                due.is("trade " + k, x.trade(0, 1, 1), k);
            }
            x.undoTrade();
            due.is("trade 12, again", x.trade(0, 1, 1), 12);
            due.is("a thirteenth", x.trade(1, 0, 1), FULL);
            due.is("TRADES", x.told(9), 12);
            due.is("FIELD 1 HAS", x.of(1, 3), 24);
        });
    }

    private void undoTrade() {
        of("Promise 20: undoTrade");
        says("The last TRADE goes: how many are left.", due -> {
            CanalTurns x = Setups.flat(1, 1);
            x.trade(0, 1, 2);
            x.trade(0, 1, 3);
            due.is("the second goes", x.undoTrade(), 1);
            due.is("FIELD 0 HAS", x.of(0, 3), 10);
            due.is("the first goes", x.undoTrade(), 0);
            due.is("FIELD 0 HAS", x.of(0, 3), 12);
            due.is("TRADES", x.told(9), 0);
        });
        says("STATE: there is none.", due -> {
            CanalTurns x = Setups.flat(1, 1);
            due.is("at first", x.undoTrade(), STATE);
            x.trade(0, 1, 2);
            x.undoTrade();
            due.is("behind the only one", x.undoTrade(), STATE);
            x.trade(0, 1, 2);
            x.rule(0);
            due.is("behind those that are gone", x.undoTrade(), STATE);
        });
    }

    private void tradeOf() {
        of("Promise 21: tradeOf");
        says("Of the k-th TRADE what 0 a, 1 b, 2 h.", due -> {
            CanalTurns x = Setups.flat(1, 1, 1);
            x.trade(0, 1, 5);
            x.trade(1, 2, 7);
            int[][] want = {{0, 1, 5}, {1, 2, 7}};
            for (int k = 0; k < 2; k++) {
                for (int what = 0; what < 3; what++) {
                    due.is("tradeOf(" + k + ", " + what + ")", x.tradeOf(k, what), want[k][what]);
                }
            }
        });
        says("NONE.", due -> {
            CanalTurns x = Setups.flat(1, 1);
            due.is("tradeOf(0, 0), no TRADES", x.tradeOf(0, 0), NONE);
            x.trade(0, 1, 5);
            due.is("tradeOf(-1, 0)", x.tradeOf(-1, 0), NONE);
            due.is("tradeOf(1, 0)", x.tradeOf(1, 0), NONE);
            due.is("tradeOf(MAX, 0)", x.tradeOf(GREATEST_INT, 0), NONE);
            due.is("tradeOf(0, -1)", x.tradeOf(0, -1), NONE);
            due.is("tradeOf(0, 3)", x.tradeOf(0, 3), NONE);
            for (int k = 1; k < 12; k++) {
                x.trade(k % 2, 1 - k % 2, 1);
            }
            due.is("tradeOf(11, 2)", x.tradeOf(11, 2), 1);
            due.is("tradeOf(12, 2)", x.tradeOf(12, 2), NONE);
        });
    }

    private void chain() {
        of("Promise 22: chain");
        says("CHAIN.", due -> {
            CanalTurns x = Setups.flat(1, 1, 1, 1, 1, 1, 1, 1);
            due.is("no TRADES", x.chain(0), 0);
            x.trade(0, 7, 1);
            x.trade(7, 1, 1);
            due.is("chain(0)", x.chain(0), 128 + 2);
            due.is("chain(7)", x.chain(7), 2);
            due.is("chain(1)", x.chain(1), 0);
            x.trade(1, 0, 1);
            due.is("chain(0), back to itself", x.chain(0), 128 + 2 + 1);
        });
        says("NONE.", due -> {
            CanalTurns x = Setups.flat(1, 1);
            due.is("chain(-1)", x.chain(-1), NONE);
            due.is("chain(2)", x.chain(2), NONE);
            due.is("chain(MAX)", x.chain(GREATEST_INT), NONE);
            due.is("chain(0), no FIELDS", new CanalTurns().chain(0), NONE);
        });
    }

    private void over() {
        of("Promise 23: over");
        says("OVER n WEEKS: what 0 hours a FIELD HAS, 1 by NIGHT.", due -> {
            CanalTurns x = Setups.flat(1, 2);
            due.is("hours, 1 WEEK", x.over(0, 1, 0), 8);
            due.is("hours, 12 WEEKS", x.over(0, 12, 0), 96);
            due.is("by NIGHT, 1 WEEK", x.over(0, 1, 1), 6);
            due.is("by NIGHT, 12 WEEKS", x.over(0, 12, 1), 72);
            x.absent(0, true);
            due.is("hours, ABSENT", x.over(0, 12, 0), 0);
            due.is("by NIGHT, ABSENT", x.over(0, 12, 1), 0);
        });
        says("NONE: field,", due -> {
            CanalTurns x = Setups.flat(1, 1);
            due.is("over(-1, 1, 0)", x.over(-1, 1, 0), NONE);
            due.is("over(2, 1, 0)", x.over(2, 1, 0), NONE);
            due.is("over(MIN, 1, 1)", x.over(LEAST_INT, 1, 1), NONE);
        });
        says("what;", due -> {
            CanalTurns x = Setups.flat(1);
            due.is("over(0, 1, -1)", x.over(0, 1, -1), NONE);
            due.is("over(0, 1, 2)", x.over(0, 1, 2), NONE);
            due.is("over(0, 1, MAX)", x.over(0, 1, GREATEST_INT), NONE);
        });
        says("BAD: n.", due -> {
            CanalTurns x = Setups.flat(1);
            due.is("over(0, 0, 0)", x.over(0, 0, 0), BAD);
            due.is("over(0, 13, 0)", x.over(0, 13, 0), BAD);
            due.is("over(0, -1, 1)", x.over(0, -1, 1), BAD);
            due.is("over(0, MAX, 1)", x.over(0, GREATEST_INT, 1), BAD);
        });
    }

    private void uneven() {
        of("Promise 24: uneven");
        says("UNEVEN.", due -> {
            // 8 hours each: 6, 0, 6 by NIGHT.
            CanalTurns x = Setups.flat(1, 1, 1);
            due.is("uneven(1)", x.uneven(1), 6);
            due.is("uneven(12)", x.uneven(12), 72);
            x.rule(1);
            due.is("uneven(12), by ON", x.uneven(12), 0);
        });
        says("BAD.", due -> {
            CanalTurns x = Setups.flat(1);
            due.is("uneven(0)", x.uneven(0), BAD);
            due.is("uneven(13)", x.uneven(13), BAD);
            due.is("uneven(MIN)", x.uneven(LEAST_INT), BAD);
            due.is("uneven(MAX)", x.uneven(GREATEST_INT), BAD);
            due.is("uneven(13), no FIELDS", new CanalTurns().uneven(13), BAD);
        });
    }

    private void evenest() {
        of("Promise 25: evenest");
        says("EVENEST.", due -> {
            CanalTurns x = Setups.flat(1, 1, 1);
            x.rule(3);
            due.is("evenest(1), all alike", x.evenest(1), 0);
            due.is("evenest(12), by ON and BACK none is uneven", x.evenest(12), 1);
            due.is("RULE stays", x.told(2), 3);
        });
        says("BAD.", due -> {
            CanalTurns x = Setups.flat(1);
            due.is("evenest(0)", x.evenest(0), BAD);
            due.is("evenest(13)", x.evenest(13), BAD);
            due.is("evenest(MIN)", x.evenest(LEAST_INT), BAD);
            due.is("evenest(MAX)", x.evenest(GREATEST_INT), BAD);
            due.is("evenest(0), no FIELDS", new CanalTurns().evenest(0), BAD);
        });
    }
}
