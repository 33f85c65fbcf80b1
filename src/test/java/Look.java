import java.util.ArrayList;
import java.util.List;

/** What an object answers when it is asked for all that it holds, in some 350 calls; the last ones change it. */
final class Look {
    private final HowHigh x;
    private final List<String> answers = new ArrayList<>();

    private Look(HowHigh x) {
        this.x = x;
    }

    static List<String> at(HowHigh x) {
        Look look = new Look(x);
        look.coast();
        look.rules();
        look.best();
        look.streetsAndTowns();
        for (int s = 3; s >= 0; s--) {
            look.sheet(s);
        }
        look.tape();
        look.image();
        return look.answers;
    }

    private void saw(String call, long answer) {
        answers.add(call + " answered " + answer);
    }

    private void coast() {
        for (int what = 0; what < 12; what++) {
            saw("count " + what, x.count(what));
        }
        for (int p = 0; p < 4; p++) {
            saw("level of " + p, x.level(p, 3));
            saw("last level of " + p, x.level(p, 15));
            saw("think of " + p, x.think(p, 0, x.level(p, 0), 1));
            for (int h = 0; h < 50; h += 9) {
                saw("flood of " + p + " over " + h, x.flood(p, 3, h));
            }
        }
        saw("harm", x.harm(0, 5, 10, 50));
        saw("cost", x.cost(2, 10, 3, 50));
        saw("behind", x.behindThen(3));
        saw("seen", x.seen(1, 3));
    }

    private void rules() {
        for (int r = 0; r < 8; r++) {
            for (int what = 0; what < 5; what++) {
                saw("rule " + r + " what " + what, x.ruleTold(r, what));
            }
            saw("rule " + r + " at last", x.ruleTold(r, 19));
            saw("mean of " + r, x.mean(r, 0));
            saw("total of " + r, x.total(r, 1));
            saw("drawn by " + r, x.drawn(r, 5, 1));
        }
    }

    private void best() {
        saw("best", x.best(-1, 0));
        saw("best on 0", x.best(0, 0));
        saw("planned", x.planned(-1, 1));
        saw("know", x.know(0));
        saw("waits", x.waits(2, 0));
        saw("broad", x.broadWorth(0));
        saw("thousand", x.thousand(50, 0));
    }

    private void streetsAndTowns() {
        for (int t = 0; t < 8; t++) {
            saw("worth of " + t, x.taken(t, 6));
            saw("street " + t, x.when(t, 0, 5));
        }
        for (int t = 0; t < 3; t++) {
            saw("town " + t, x.pays(t, 0, 0, 8, 0));
            saw("raised town " + t, x.pays(t, 0, 0, 8, 1 << t));
        }
        saw("rests", x.rests(0, 0, 8));
        saw("joint", x.joint(1, 0, 0, 5));
    }

    /** Sheets above the last tell their numbers by a rule, for which there has to be room; sheet 3 is used for it. */
    private void sheet(int s) {
        int sort = -1;
        for (int k = 0; k < 3; k++) {
            int of = x.stormsBy(s, k, 0, 0);
            saw("sheet " + s + " is of " + k, of);
            sort = of == 0 ? k : sort;
        }
        if (sort < 0) {
            return;
        }
        int size = 0;
        for (int by = 32; by > 0; by /= 2) {
            size += x.copy(s, size + by, s, size + by, 0) == 0 ? by : 0;
        }
        saw("size of " + s, size);
        int told = Math.min(size, 16);
        if (s < 3) {
            x.sheet(3, sort, 16);
            x.copy(s, 0, 3, 0, told);
        }
        int r = x.rule(4, 0, 0, 3);
        saw("rule by " + s, r);
        for (int i = 0; i < told && r >= 0; i++) {
            saw("number " + i + " of " + s, x.ruleTold(r, 4 + i));
        }
    }

    private void tape() {
        saw("feed", x.feed(0x20393bL, 3));
        int t = x.text();
        saw("text", t);
        saw("its number", x.force(t));
        saw("its cost", x.cost(1, 2, 3, 4));
        saw("its growth", x.behindThen(1));
    }

    private void image() {
        saw("back", x.back());
        for (int what = 0; what < 5; what++) {
            saw("count " + what + " of it", x.count(what));
        }
        saw("law of it", x.count(10));
        saw("push of it", x.push(9));
        for (int p = 0; p < 4; p++) {
            saw("weight of it " + p, x.weigh(p, 1));
        }
    }
}
