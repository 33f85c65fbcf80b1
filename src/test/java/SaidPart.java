import java.util.Random;

/** A part of a law by numbers drawn: as a text, and as what the model asks. */
record SaidPart(String text, Model.Part part) {
    /** Parts as a coast may have them. */
    static SaidPart plain(Random random, int which) {
        int a = random.nextInt(40);
        int b = random.nextInt(12);
        int c = random.nextInt(60);
        return switch (which) {
            case 0 -> random.nextBoolean()
                ? new SaidPart("over*" + a + " + behind * " + b,
                    (over, rich, h, level, year, up) -> over * a + rich * b)
                : new SaidPart("over * behind - wall + level + year * " + c,
                    (over, rich, h, level, year, up) -> over * rich - h + level + year * c);
            case 1 -> random.nextBoolean()
                ? new SaidPart(a + " + up * up * " + b + " + over * " + c + " - wall",
                    (over, rich, h, level, year, up) -> a + up * up * b + over * c - h)
                : new SaidPart("up * (wall + " + b + ") - (over = 1) * " + c,
                    (over, rich, h, level, year, up) -> up * (h + b) - over * c);
            default -> random.nextBoolean()
                ? new SaidPart(a + " - year * " + b, (over, rich, h, level, year, up) -> a - year * b)
                : new SaidPart("behind * (year < " + b + ") - " + c,
                    (over, rich, h, level, year, up) -> (year < b ? rich : 0) - c);
        };
    }

    /** Any part that a text may have; short enough mostly. */
    static SaidPart any(Random random, int open, int deep) {
        SaidPart all = ands(random, open, deep);
        for (int i = random.nextInt(6); i > 3; i--) {
            SaidPart left = all;
            SaidPart right = ands(random, open, deep - 1);
            all = new SaidPart(left.text + " or\n" + right.text, (a, b, c, d, e, f) ->
                left.part.of(a, b, c, d, e, f) != 0 | right.part.of(a, b, c, d, e, f) != 0 ? 1 : 0);
        }
        return all;
    }

    private static SaidPart ands(Random random, int open, int deep) {
        SaidPart all = not(random, open, deep);
        for (int i = random.nextInt(6); i > 3; i--) {
            SaidPart left = all;
            SaidPart right = not(random, open, deep - 1);
            all = new SaidPart(left.text + " and " + right.text, (a, b, c, d, e, f) ->
                left.part.of(a, b, c, d, e, f) != 0 & right.part.of(a, b, c, d, e, f) != 0 ? 1 : 0);
        }
        return all;
    }

    private static SaidPart not(Random random, int open, int deep) {
        if (open < 5 && random.nextInt(8) == 0) {
            SaidPart in = not(random, open + 1, deep);
            return new SaidPart("not " + in.text, (a, b, c, d, e, f) -> in.part.of(a, b, c, d, e, f) == 0 ? 1 : 0);
        }
        SaidPart left = sum(random, open, deep);
        if (random.nextInt(4) != 0) {
            return left;
        }
        SaidPart right = sum(random, open, deep - 1);
        boolean less = random.nextBoolean();
        return new SaidPart(left.text + (less ? "<" : " = ") + right.text, (a, b, c, d, e, f) -> {
            int l = left.part.of(a, b, c, d, e, f);
            int r = right.part.of(a, b, c, d, e, f);
            return (less ? l < r : l == r) ? 1 : 0;
        });
    }

    private static SaidPart sum(Random random, int open, int deep) {
        SaidPart all = term(random, open, deep);
        for (int i = random.nextInt(5); i > 2; i--) {
            SaidPart left = all;
            SaidPart right = term(random, open, deep - 1);
            int sign = random.nextBoolean() ? 1 : -1;
            all = new SaidPart(left.text + (sign > 0 ? "+" : " - ") + right.text, (a, b, c, d, e, f) ->
                left.part.of(a, b, c, d, e, f) + sign * right.part.of(a, b, c, d, e, f));
        }
        return all;
    }

    private static SaidPart term(Random random, int open, int deep) {
        SaidPart all = one(random, open, deep);
        for (int i = random.nextInt(5); i > 2; i--) {
            SaidPart left = all;
            SaidPart right = one(random, open, deep - 1);
            all = new SaidPart(left.text + "*" + right.text, (a, b, c, d, e, f) ->
                left.part.of(a, b, c, d, e, f) * right.part.of(a, b, c, d, e, f));
        }
        return all;
    }

    private static SaidPart one(Random random, int open, int deep) {
        int way = random.nextInt(deep <= 0 || open >= 5 ? 3 : 5);
        if (way == 0) {
            int n = random.nextBoolean() ? random.nextInt(10) : random.nextInt(10000);
            return new SaidPart("" + n, (a, b, c, d, e, f) -> n);
        }
        if (way < 3) {
            int name = random.nextInt(6);
            String[] names = {"over", "behind", "wall", "level", "year", "up"};
            return new SaidPart(names[name], (a, b, c, d, e, f) -> new int[] {a, b, c, d, e, f}[name]);
        }
        if (way == 3) {
            SaidPart in = one(random, open + 1, deep - 1);
            return new SaidPart("-" + in.text, (a, b, c, d, e, f) -> -in.part.of(a, b, c, d, e, f));
        }
        SaidPart in = any(random, open + 1, deep - 1);
        return new SaidPart("(" + in.text + ")", in.part);
    }
}
