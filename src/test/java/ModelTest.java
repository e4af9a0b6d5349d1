import java.util.Random;

/** Runs of mixed calls, always the same ones, each answer held against the model's. */
public final class ModelTest {
    private static final int RUNS = 400;
    private static final int CALLS = 512;
    private static final int[] NUMBERS = {6, 8, 9, 10, 12, 15, 18, 20, 24};
    private static final int[] FAR = {Integer.MIN_VALUE, Integer.MAX_VALUE, -1000000, 1000000};

    private final Random random;
    private final GlobeWorks works;
    private final Model model;
    private final int width;
    private final int mood;
    private final int aroundLongitude;
    private final int aroundLatitude;

    private ModelTest(int run) {
        random = new Random(run);
        int gores = run % 3 == 0 ? random.nextInt(32) - 2 : NUMBERS[random.nextInt(NUMBERS.length)];
        works = new GlobeWorks(gores);
        model = new Model(gores);
        width = 360 / model.n;
        mood = run % 4;
        aroundLongitude = random.nextInt(360);
        aroundLatitude = random.nextInt(181) - 90;
    }

    public static void main(String[] args) {
        for (int run = 0; run < RUNS; run++) {
            ModelTest test = new ModelTest(run);
            for (int call = 0; call < CALLS; call++) {
                test.oneCall("run " + run + ", call " + call + ": ");
            }
        }
        Check.end();
    }

    private int between(int low, int high) {
        if (random.nextInt(60) == 0) {
            return FAR[random.nextInt(FAR.length)];
        }
        if (random.nextInt(25) == 0) {
            return random.nextBoolean() ? low - 1 : high + 1;
        }
        if (random.nextInt(12) == 0) {
            return random.nextBoolean() ? low : high;
        }
        return low + random.nextInt(high - low + 1);
    }

    private int longitude() {
        if (random.nextInt(4) == 0) {
            return width * random.nextInt(model.n);
        }
        return between(0, 359);
    }

    // Names near one another try the setting; far ones would nearly always stay in way 0.
    private int nameLongitude() {
        if (mood == 0) {
            return longitude();
        }
        return Math.floorMod(aroundLongitude + random.nextInt(mood == 1 ? 3 : width), 360);
    }

    private int nameLatitude() {
        if (mood == 0) {
            return between(-90, 90);
        }
        return Math.max(-90, Math.min(90, aroundLatitude + random.nextInt(7) - 3));
    }

    private int gore() {
        return between(0, model.n - 1);
    }

    private int coast() {
        return between(0, Math.max(0, model.count(1) - 1));
    }

    private int name() {
        return between(0, 59) % (random.nextBoolean() ? 60 : 12);
    }

    private void due(String call, int got, int want) {
        Check.due(call, got, want);
    }

    private void oneCall(String at) {
        int kind = random.nextInt(100);
        if (kind < 30) {
            coasts(at, kind);
        } else if (kind < 75) {
            names(at, kind);
        } else {
            rest(at, kind);
        }
    }

    private void coasts(String at, int kind) {
        if (kind < 4) {
            int a = longitude();
            int b = between(-90, 90);
            due(at + "coast " + a + ", " + b, works.coast(a, b), model.coast(a, b));
        } else if (kind < 18) {
            int a = coast();
            int b = longitude();
            int c = between(-90, 90);
            due(at + "to " + a + ", " + b + ", " + c, works.to(a, b, c), model.to(a, b, c));
        } else if (kind < 20) {
            int a = gore();
            due(at + "pieces " + a, works.pieces(a), model.pieces(a));
        } else {
            int a = gore();
            int b = between(0, Math.max(0, model.pieces(a) - 1));
            int c = between(0, 4);
            due(at + "piece " + a + ", " + b + ", " + c, works.piece(a, b, c), model.piece(a, b, c));
        }
    }

    private void names(String at, int kind) {
        int a = name();
        if (kind < 42) {
            int b = nameLongitude();
            int c = nameLatitude();
            int d = between(1, 20);
            int e = random.nextBoolean() ? between(1, 5) : between(1, 99);
            due(at + "name " + b + ", " + c + ", " + d + ", " + e,
                    works.name(b, c, d, e), model.name(b, c, d, e));
        } else if (kind < 47) {
            Check.due(at + "strike " + a, works.strike(a), model.strike(a));
        } else if (kind < 54) {
            int b = between(0, 4);
            Check.due(at + "may " + a + ", " + b, works.may(a, b), model.may(a, b));
        } else if (kind < 66) {
            due(at + "set " + a, works.set(a), model.set(a));
        } else if (kind < 70) {
            int b = gore();
            due(at + "cost " + b, works.cost(b), model.cost(b));
        } else {
            int b = between(0, 4);
            due(at + "told " + a + ", " + b, works.told(a, b), model.told(a, b));
        }
    }

    private void rest(String at, int kind) {
        if (kind < 77) {
            int a = between(0, random.nextBoolean() ? 1 : 50);
            int b = between(0, random.nextBoolean() ? 1 : 50);
            Check.due(at + "paper " + a + ", " + b, works.paper(a, b), model.paper(a, b));
        } else if (kind < 81) {
            int a = between(-10000, 10000);
            int b = between(0, 1);
            due(at + "drawn " + a + ", " + b, works.drawn(a, b), model.drawn(a, b));
            due(at + "wet " + a + ", " + b, works.wet(a, b), model.wet(a, b));
        } else if (kind < 84) {
            int a = between(-5400, 5400);
            int b = between(-width, width);
            due(at + "narrow " + a, works.narrow(a), model.narrow(a));
            due(at + "across " + b + ", " + a, works.across(b, a), model.across(b, a));
        } else if (kind < 90) {
            int a = gore();
            Check.due(at + "fresh " + a, works.fresh(a), model.fresh(a));
            due(at + "printed " + a, works.printed(a), model.printed(a));
        } else if (kind < 92) {
            due(at + "edition", works.edition(), model.edition());
        } else {
            int a = between(0, 5);
            due(at + "count " + a, works.count(a), model.count(a));
        }
    }
}
