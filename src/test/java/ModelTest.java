import java.util.Random;

/** Runs of calls by lot (always the same lot), each answered by RoseLane and by the model: all promises together. */
final class ModelTest {
    private static final int RUNS = 400;
    private static final String[] PIECES = {"lane", "sort", "plain", "musk", "coffee", "nothing", "want", "purse", "shut", ";",
        " ", "0", "1", "3", "4", "9", "10", "30", "31", "50", "51", "99", "100", "a", "A", "-"};

    private final Random lot;
    private RoseLane x = new RoseLane();
    private Model model = new Model();
    private int calls = 0;
    private String run = "";

    private ModelTest(int seed) {
        lot = new Random(seed);
    }

    static void run() {
        for (int seed = 0; seed < RUNS; seed++) {
            new ModelTest(seed).go();
        }
    }

    private void go() {
        boolean idler = lot.nextInt(10) == 0;
        if (idler) {
            for (int i = 0; i < 499; i++) {
                idle(20);
            }
            idle(near(15, 20));
        } else {
            tell(goodText(6));
        }
        while (calls < Calls.MOST) {
            int n = lot.nextInt(100);
            if (n < 3) {
                tell(lot.nextBoolean() ? goodText(lot.nextInt(4)) : anyText());
            } else if (n < 50) {
                walk();
            } else if (n < 75) {
                foretell();
            } else {
                ask();
            }
        }
    }

    private void same(String call, int answer, int due) {
        calls++;
        run += call + " = " + due + "; ";
        if (answer != due) {
            System.out.println(run);
        }
        Due.is("model: " + call, answer, due);
    }

    private int near(int low, int high) {
        return lot.nextInt(25) == 0 ? Due.EDGES[lot.nextInt(Due.EDGES.length)] : low + lot.nextInt(high - low + 1);
    }

    private int shopNumber() {
        return near(0, Math.max(0, model.told.shops.size() - 1));
    }

    private int set() {
        return near(0, (1 << model.told.shops.size()) - 1);
    }

    private String goodText(int shops) {
        StringBuilder text = new StringBuilder(lot.nextInt(3) > 0 || model.told.shops.size() > 3 ? "shut" : "want 9");
        for (int i = lot.nextInt(4); i > 0; i--) {
            text.append(";sort ").append(lot.nextInt(4)).append(' ').append(lot.nextInt(10)).append(' ').append(lot.nextInt(6) / 2);
        }
        if (lot.nextBoolean()) {
            text.append(";want ").append(1 + lot.nextInt(20)).append(";purse").append(lot.nextInt(100));
        }
        String[] words = {"plain", "plain", "musk", "coffee", "nothing"};
        for (int i = 0; i < shops; i++) {
            text.append(';').append(words[lot.nextInt(5)]).append(lot.nextInt(4)).append(' ').append(1 + lot.nextInt(30))
                .append(' ').append(lot.nextInt(51));
        }
        return text.toString();
    }

    private String anyText() {
        StringBuilder text = new StringBuilder();
        for (int i = lot.nextInt(12); i >= 0; i--) {
            text.append(PIECES[lot.nextInt(PIECES.length)]).append(lot.nextBoolean() ? " " : "");
        }
        return text.toString();
    }

    /** A text that no longer fits into the calls of a run is left out. */
    private void tell(String text) {
        if (calls + text.length() + 3 > Calls.MOST) {
            ask();
            return;
        }
        same("erase()", x.erase(), model.erase());
        for (int i = 0; i < text.length(); i++) {
            int letter = text.charAt(i);
            same("write(" + letter + ")", x.write(letter), model.write(letter));
        }
        same("fault()", x.fault(), model.fault());
        same("lane()", x.lane(), model.lane());
    }

    private void idle(int n) {
        same("idle(" + n + ")", x.idle(n), model.idle(n));
    }

    private void walk() {
        int n = lot.nextInt(12);
        if (n < 5) {
            int shop = shopNumber();
            same("visit(" + shop + ")", x.visit(shop), model.visit(shop));
        } else if (n == 5) {
            idle(near(1, lot.nextBoolean() ? 4 : 20));
        } else if (n == 6) {
            same("wind()", x.wind(), model.wind());
        } else if (n == 7) {
            int c = near(0, lot.nextBoolean() ? 4 : 50);
            same("cold(" + c + ")", x.cold(c), model.cold(c));
        } else if (n == 8 || n == 9) {
            same("undo()", x.undo(), model.undo());
        } else {
            int k = near(0, 1);
            if (lot.nextBoolean()) {
                same("keep(" + k + ")", x.keep(k), model.keep(k));
            } else {
                same("back(" + k + ")", x.back(k), model.back(k));
            }
        }
    }

    private void foretell() {
        int n = lot.nextInt(6);
        int what = near(0, 1);
        int m = near(0, lot.nextBoolean() ? 5 : 30);
        if (n == 0) {
            int set = set();
            int which = near(0, 7);
            same("best(" + set + ", " + m + ", " + which + ")", x.best(set, m, which), model.best(set, m, which));
        } else if (n == 1) {
            same("through()", x.through(), model.through());
        } else if (n == 2) {
            same("change()", x.change(), model.change());
        } else if (n == 3) {
            same("coffeeAt(" + what + ")", x.coffeeAt(what), model.coffeeAt(what));
        } else if (n == 4) {
            int shop = shopNumber();
            same("byLot(" + shop + ", " + m + ", " + what + ")", x.byLot(shop, m, what), model.byLot(shop, m, what));
        } else {
            int set = set();
            int i = near(-1, 5);
            same("orders(" + set + ", " + i + ")", x.orders(set, i), model.orders(set, i));
        }
    }

    private void ask() {
        int n = lot.nextInt(9);
        int what = near(0, 10);
        int shop = shopNumber();
        if (n < 2) {
            same("count(" + what + ")", x.count(what), model.count(what));
        } else if (n < 4) {
            int of = near(0, 6);
            same("shop(" + shop + ", " + of + ")", x.shop(shop, of), model.shop(shop, of));
        } else if (n == 4) {
            int sort = near(0, 3);
            int of = near(0, 2);
            same("sort(" + sort + ", " + of + ")", x.sort(sort, of), model.sort(sort, of));
        } else if (n == 5) {
            int kind = near(0, 4);
            same("as(" + shop + ", " + kind + ")", x.as(shop, kind), model.as(shop, kind));
        } else if (n == 6) {
            int visits = near(0, lot.nextBoolean() ? 2 : 9);
            int strength = model.shop(shop, 2);
            int smelt = lot.nextBoolean() ? near(0, 30) : Math.max(0, strength - visits * lot.nextInt(12));
            same("tells(" + shop + ", " + visits + ", " + smelt + ")", x.tells(shop, visits, smelt), model.tells(shop, visits, smelt));
        } else if (n == 7 && lot.nextInt(3) == 0) {
            same("forget()", x.forget(), model.forget());
        } else {
            int sort = near(0, 3);
            same("smallest(" + sort + ")", x.smallest(sort), model.smallest(sort));
        }
    }
}
