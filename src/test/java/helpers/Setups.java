import java.util.ArrayList;
import java.util.List;

/** Canals that several tests use, and all that can be asked of one. */
final class Setups {
    private Setups() {
    }

    /**
     * LINE 1, 0, 2. In WEEK 0 by RULE 0 the LAGS are 2, 3, 0; LEFT 19; FIELDS 0, 1, 2 HAVE 9, 5, 5, from 10, 2, 19
     * on, 1, 4, 5 of these by NIGHT, WATER 630, 450, 350.
     */
    static CanalTurns three() {
        CanalTurns x = new CanalTurns();
        x.field(1, 2);
        x.field(0, 1);
        x.field(1, 1);
        x.reach(0, 0, 2);
        x.reach(1, 0, 3);
        x.reach(0, 1, 10);
        x.reach(1, 1, 20);
        return x;
    }

    /** FIELDS with these SHARES on REACH 0, which fills in no time: all HOURS are LEFT. */
    static CanalTurns flat(int... shares) {
        CanalTurns x = new CanalTurns();
        x.reach(0, 0, 0);
        for (int share : shares) {
            x.field(0, share);
        }
        return x;
    }

    static int feed(CanalTurns x, String text) {
        int size = 0;
        for (int i = 0; i < text.length(); i++) {
            size = x.feed(text.charAt(i));
        }
        return size;
    }

    static int read(CanalTurns x, String text) {
        feed(x, text);
        return x.read();
    }

    static int passTo(CanalTurns x, int week) {
        int now = x.told(3);
        // Twenty steps reach the last WEEK: a class in which WEEKS don't go by fails, and does not go on for ever.
        for (int step = 0; step < 20 && now < week; step++) {
            now = x.pass(Math.min(52, week - now));
        }
        return now;
    }

    /** Everything that can be asked without changing anything. */
    static List<Long> all(CanalTurns x) {
        List<Long> all = new ArrayList<>();
        for (int i = 0; i < 12; i++) {
            all.add((long) x.told(i));
            all.add((long) x.line(i));
            all.add((long) x.turn(i));
            all.add((long) x.lag(i));
            for (int what = 0; what < 3; what++) {
                all.add((long) x.tradeOf(i, what));
            }
            all.add((long) x.uneven(i + 1));
        }
        for (int f = 0; f < 8; f++) {
            for (int what = 0; what < 9; what++) {
                all.add((long) x.of(f, what));
            }
            all.add((long) x.chain(f));
            all.add((long) x.over(f, 3, 1));
            all.add(x.odds(f, 0));
        }
        for (int i = 0; i < 5; i++) {
            all.add((long) x.count(i));
        }
        for (int r = 0; r < 4; r++) {
            all.add((long) x.reachOf(r, 0));
            all.add((long) x.reachOf(r, 1));
            all.add((long) x.reachOf(r, 2));
        }
        all.add((long) x.fits(0));
        all.add((long) x.fits(1));
        all.add((long) x.ends(0));
        all.add((long) x.ends(1));
        all.add((long) x.ends(2));
        all.add((long) x.looked());
        for (int t = 0; t < 6; t++) {
            for (int i = 0; i < 61; i++) {
                all.add(x.peek(t, i));
            }
            all.add((long) x.shift(t, 0, t, 0, 0));
            all.add((long) x.judge(t, 0));
        }
        return all;
    }
}
