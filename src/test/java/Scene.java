/** Coasts to begin a test with; each is made by less than 200 calls. */
final class Scene {
    /** What makes an object ready. */
    interface Made {
        void by(HowHigh x);
    }

    private Scene() {
    }

    static HowHigh of(Made made) {
        HowHigh x = new HowHigh();
        made.by(x);
        return x;
    }

    static void nothing(HowHigh x) {
    }

    /** Something of everything, and room for one more of each; what the image keeps is another coast. */
    static void some(HowHigh x) {
        x.path(3, 2, 10, 205);
        x.path(1, 0, 30, 1540);
        x.storm(10, 100);
        x.storm(16, 30);
        x.storm(25, 5);
        LawTest.read(x, "harm over*behind - wall;cost 9+up*wall+over*50;grow 3-year;");
        RulesTest.sheet(x, 0, 0, 1, 2, 3, 4, 5, 6, 7, 8, 9, 10, 11, 12, 13, 14, 20);
        x.rule(1, 50, 0, 0);
        x.rule(3, 1, 405, 0);
        x.rule(5, 2, 103, 0);
        x.rule(4, 0, 0, 0);
        x.street(13, 5);
        x.street(20, 70);
        x.town(10, 50);
        x.town(15, 80);
        x.push(3);
        x.image();
        x.set(0, 5);
        x.set(1, 15);
        x.set(2, 50);
        x.set(3, 1);
        x.weigh(0, 7);
        x.push(4);
        x.force(1);
        x.sheet(1, 0, 5);
        for (int i = 0; i < 5; i++) {
            x.cell(1, i, 5 - i);
        }
        x.sheet(2, 1, 2);
        x.cell(2, 0, 40);
        x.cell(2, 1, 90);
        LawTest.tape(x, "harm 7;cost 8;grow");
    }

    /** As many of everything as there can be, but for storms in 1000 years: 6 of them are 60. */
    static void full(HowHigh x) {
        for (int p = 0; p < 4; p++) {
            x.path(1 + p, p, 10 * p, 100 * p + p);
        }
        for (int s = 0; s < 6; s++) {
            x.storm(10 + 5 * s, 10);
        }
        for (int t = 1; t < 6; t++) {
            LawTest.read(x, "harm 1;cost 2;grow 3;");
        }
        for (int i = 0; i < 8; i++) {
            x.rule(i % 3, 10 * i, 100 * i + i, 0);
            x.street(5 * i, i);
        }
        for (int t = 0; t < 3; t++) {
            x.town(5 * t, 100 * t);
        }
        for (int i = 0; i < 20; i++) {
            x.feed(0x6861726d20383b20L, 8);
        }
        RulesTest.sheet(x, 0, 0, 1, 2, 3, 4, 5, 6, 7, 8, 9, 10, 11, 12, 13, 14, 20);
        x.image();
    }
}
