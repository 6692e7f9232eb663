import java.util.ArrayList;
import java.util.Arrays;
import java.util.List;
import java.util.TreeMap;
import java.util.function.Consumer;
import java.util.regex.Matcher;
import java.util.regex.Pattern;

/**
 * The document once more, written as another program: texts by patterns, walks by recursion over whole copies, each
 * step gone one by one. What it shares with RoseLane is the reading of the document alone.
 */
final class Model {
    private static final int NONE = -1, UNKNOWN = -2, OUTSIDE = -3, NOT = -4, FULL = -5;
    private static final List<String> KINDS = List.of("plain", "musk", "coffee", "nothing");
    private static final Pattern TOKEN = Pattern.compile("[a-z]+|[0-9]+|[^ ]", Pattern.DOTALL);

    record Shop(String kind, int sort, int strength, int price) {
    }

    record Tell(int shop, int visits, int smelt) {
    }

    static final class Told {
        int[] tire = {4, 4, 4, 4};
        int[] rest = {1, 1, 1, 1};
        List<Shop> shops = new ArrayList<>();
        int want = 10;
        int purse = 60;
    }

    static final class State implements Cloneable {
        int[] tired = new int[4];
        List<Integer> line = new ArrayList<>();
        int at;
        int steps;
        int cold;
        int purse;
        int smelt;
        boolean[] bought = new boolean[6];

        State twin() {
            State s = new State();
            s.tired = tired.clone();
            s.line = new ArrayList<>(line);
            s.at = at;
            s.steps = steps;
            s.cold = cold;
            s.purse = purse;
            s.smelt = smelt;
            s.bought = bought.clone();
            return s;
        }
    }

    String text = "";
    Told told = new Told();
    State now = new State();
    final List<State> past = new ArrayList<>();
    final TreeMap<Integer, State> kept = new TreeMap<>();
    final List<Tell> tells = new ArrayList<>();

    Model() {
        now.purse = 60;
    }

    private static boolean in(int n, int low, int high) {
        return n >= low && n <= high;
    }

    int write(int letter) {
        if (!in(letter, 0, 255)) return OUTSIDE;
        if (text.length() == 160) return FULL;
        text += (char) letter;
        return text.length();
    }

    int erase() {
        int had = text.length();
        text = "";
        return had;
    }

    /** The fault; what a clause does goes into done. */
    private int read(List<Consumer<Told>> done) {
        List<String> tokens = new ArrayList<>();
        List<Integer> places = new ArrayList<>();
        Matcher m = TOKEN.matcher(text);
        while (m.find()) {
            tokens.add(m.group());
            places.add(m.start());
        }
        tokens.add("");
        places.add(text.length());
        int shops = told.shops.size();
        int t = 0;
        for (int clause = 1; ; clause++) {
            String word = tokens.get(t);
            int[][] bounds;
            switch (word) {
                case "lane", "shut" -> {
                    bounds = new int[][] {};
                    shops = 0;
                }
                case "sort" -> bounds = new int[][] {{0, 3}, {0, 9}, {0, 5}};
                case "plain", "musk", "coffee", "nothing" -> {
                    bounds = new int[][] {{0, 3}, {1, 30}, {0, 50}};
                    if (++shops == 7) return places.get(t);
                }
                case "want" -> bounds = new int[][] {{1, 30}};
                case "purse" -> bounds = new int[][] {{0, 99}};
                default -> {
                    return places.get(t);
                }
            }
            int[] n = new int[3];
            for (int i = 0; i < bounds.length; i++) {
                t++;
                if (!tokens.get(t).matches("[0-9]{1,2}")) return places.get(t);
                n[i] = Integer.parseInt(tokens.get(t));
                if (!in(n[i], bounds[i][0], bounds[i][1])) return places.get(t);
            }
            done.add(all -> carryOut(all, word, n));
            t++;
            if (tokens.get(t).isEmpty()) return NONE;
            if (!tokens.get(t).equals(";") || clause == 14) return places.get(t);
            t++;
        }
    }

    private static void carryOut(Told all, String word, int[] n) {
        if (word.equals("lane")) {
            Told first = new Told();
            all.tire = first.tire;
            all.rest = first.rest;
            all.want = 10;
            all.purse = 60;
            all.shops.clear();
        } else if (word.equals("sort")) {
            all.tire[n[0]] = n[1];
            all.rest[n[0]] = n[2];
        } else if (word.equals("want")) {
            all.want = n[0];
        } else if (word.equals("purse")) {
            all.purse = n[0];
        } else if (word.equals("shut")) {
            all.shops.clear();
        } else {
            all.shops.add(new Shop(word, n[0], n[1], n[2]));
        }
    }

    int fault() {
        return read(new ArrayList<>());
    }

    int lane() {
        List<Consumer<Told>> done = new ArrayList<>();
        if (read(done) != NONE) return NOT;
        done.forEach(d -> d.accept(told));
        text = "";
        now = new State();
        now.purse = told.purse;
        for (int s = 0; s < told.shops.size(); s++) now.line.add(s);
        past.clear();
        kept.clear();
        tells.clear();
        return done.size();
    }

    int sort(int sort, int what) {
        if (!in(sort, 0, 3)) return UNKNOWN;
        if (!in(what, 0, 2)) return OUTSIDE;
        return (what == 0 ? told.tire : what == 1 ? told.rest : now.tired)[sort];
    }

    private boolean known(int shop) {
        return in(shop, 0, told.shops.size() - 1);
    }

    int shop(int shop, int what) {
        if (!known(shop)) return UNKNOWN;
        if (!in(what, 0, 6)) return OUTSIDE;
        Shop s = told.shops.get(shop);
        return new int[] {KINDS.indexOf(s.kind), s.sort, s.strength, s.price, now.line.indexOf(shop),
            now.bought[shop] ? 1 : 0, smeltBy(s, now.tired, now.cold)}[what];
    }

    private static int smeltBy(Shop s, int[] tired, int cold) {
        if (s.kind.equals("nothing")) return 3;
        int much = s.strength > tired[s.sort] ? s.strength - tired[s.sort] : 0;
        return cold > 0 ? much / 2 : much;
    }

    private static void tireBy(Shop s, int[] tired, int[] tire) {
        int t = tire[s.sort];
        int[] more = new int[4];
        if (s.kind.equals("plain") || s.kind.equals("musk")) {
            more[s.sort] += t;
            more[s.sort == 3 ? 0 : s.sort + 1] += t / 2;
        }
        for (int i = 0; i < 4; i++) {
            if (s.kind.equals("musk")) more[i] += 2;
            if (s.kind.equals("coffee")) more[i] -= 10;
            tired[i] += more[i];
            if (tired[i] > 99) tired[i] = 99;
            if (tired[i] < 0) tired[i] = 0;
        }
    }

    int as(int shop, int kind) {
        if (!known(shop)) return UNKNOWN;
        if (!in(kind, 0, 4)) return OUTSIDE;
        Shop s = told.shops.get(shop);
        String over = switch (s.kind) {
            case "plain" -> "01";
            case "musk" -> "012";
            case "coffee" -> "03";
            default -> "04";
        };
        if (over.indexOf('0' + kind) < 0) return NOT;
        int[] tired = now.tired.clone();
        tireBy(s, tired, told.tire);
        return tired[s.sort] - now.tired[s.sort] + 99;
    }

    private void step(State w) {
        for (int i = 0; i < 4; i++) {
            w.tired[i] -= told.rest[i];
            if (w.tired[i] < 0) w.tired[i] = 0;
        }
        if (w.cold > 0) w.cold--;
        w.steps++;
    }

    private int visit(State w, int shop) {
        int there = w.line.indexOf(shop);
        while (w.at != there) {
            step(w);
            w.at += w.at < there ? 1 : -1;
        }
        Shop s = told.shops.get(shop);
        int much = smeltBy(s, w.tired, w.cold);
        if (much >= told.want && !w.bought[shop] && s.price <= w.purse) {
            w.bought[shop] = true;
            w.purse -= s.price;
        }
        tireBy(s, w.tired, told.tire);
        w.smelt += much;
        return much;
    }

    private void remember() {
        past.add(now.twin());
        if (past.size() > 8) past.remove(0);
    }

    int visit(int shop) {
        if (!known(shop)) return UNKNOWN;
        if (now.steps > 9999) return FULL;
        remember();
        return visit(now, shop);
    }

    int idle(int n) {
        if (!in(n, 1, 20)) return OUTSIDE;
        if (now.steps > 9999) return FULL;
        remember();
        for (int i = 0; i < n; i++) step(now);
        return now.steps;
    }

    int wind() {
        if (told.shops.isEmpty()) return NOT;
        remember();
        java.util.Collections.reverse(now.line);
        now.at = told.shops.size() - 1 - now.at;
        return now.at;
    }

    int cold(int n) {
        if (!in(n, 0, 50)) return OUTSIDE;
        remember();
        int had = now.cold;
        now.cold = n;
        return had;
    }

    int undo() {
        if (past.isEmpty()) return NOT;
        now = past.remove(past.size() - 1);
        return past.size();
    }

    int keep(int k) {
        if (!in(k, 0, 1)) return UNKNOWN;
        kept.put(k, now.twin());
        return now.steps;
    }

    int back(int k) {
        if (!in(k, 0, 1)) return UNKNOWN;
        if (!kept.containsKey(k)) return NOT;
        now = kept.get(k).twin();
        past.clear();
        return now.steps;
    }

    interface Gone {
        void walk(List<Integer> row, List<Integer> smelt, State end);
    }

    private void walks(int set, State from, List<Integer> row, List<Integer> smelt, Gone gone) {
        if (set == 0) {
            gone.walk(row, smelt, from);
        }
        for (int s = 0; s < told.shops.size(); s++) {
            if ((set & 1 << s) != 0) {
                State w = from.twin();
                List<Integer> longer = new ArrayList<>(row);
                List<Integer> smelts = new ArrayList<>(smelt);
                longer.add(s);
                smelts.add(visit(w, s));
                walks(set & ~(1 << s), w, longer, smelts, gone);
            }
        }
    }

    private boolean isSet(int set) {
        return set >= 0 && set < 1 << told.shops.size();
    }

    int best(int set, int m, int what) {
        if (!isSet(set)) return UNKNOWN;
        if (!in(m, 0, 30) || !in(what, 0, 7)) return OUTSIDE;
        List<List<Integer>> fit = new ArrayList<>();
        List<int[]> worth = new ArrayList<>();
        walks(set, now, List.of(), List.of(), (row, smelt, end) -> {
            if (smelt.stream().allMatch(s -> s >= m)) {
                fit.add(row);
                worth.add(new int[] {end.steps - now.steps, smelt.stream().mapToInt(s -> s).sum()});
            }
        });
        if (fit.isEmpty()) return NONE;
        int b = 0;
        for (int i = 1; i < fit.size(); i++) {
            int[] x = worth.get(i);
            int[] y = worth.get(b);
            if (x[0] < y[0] || x[0] == y[0] && x[1] > y[1]) b = i;
        }
        if (what < 2) return worth.get(b)[what];
        return what - 2 < fit.get(b).size() ? fit.get(b).get(what - 2) : NONE;
    }

    private State fresh(List<Integer> line) {
        State w = new State();
        w.line = new ArrayList<>(line);
        w.purse = told.purse;
        return w;
    }

    private int through(List<Integer> line) {
        State w = fresh(line);
        for (int shop : line) visit(w, shop);
        return w.smelt;
    }

    int through() {
        return through(now.line);
    }

    int change() {
        int most = through();
        int pair = NONE;
        for (int a = 0; a < told.shops.size(); a++) {
            for (int b = a + 1; b < told.shops.size(); b++) {
                List<Integer> line = new ArrayList<>(now.line);
                java.util.Collections.swap(line, line.indexOf(a), line.indexOf(b));
                if (through(line) > most) {
                    most = through(line);
                    pair = 10 * a + b;
                }
            }
        }
        return pair;
    }

    int coffeeAt(int what) {
        if (!in(what, 0, 1)) return OUTSIDE;
        int[] best = {NONE, NONE};
        for (int c = 0; c < told.shops.size(); c++) {
            Shop was = told.shops.get(c);
            told.shops.set(c, new Shop("coffee", was.sort, was.strength, was.price));
            State w = fresh(now.line);
            int sum = 0;
            for (int shop : now.line) {
                int much = visit(w, shop);
                sum += shop == c ? 0 : much;
            }
            told.shops.set(c, was);
            if (sum > best[1]) best = new int[] {c, sum};
        }
        return best[what];
    }

    int byLot(int shop, int m, int part) {
        if (!known(shop)) return UNKNOWN;
        if (!in(m, 0, 30) || !in(part, 0, 1)) return OUTSIDE;
        int[] odds = new int[2];
        walks((1 << told.shops.size()) - 1, now, List.of(), List.of(), (row, smelt, end) -> {
            odds[1]++;
            if (smelt.get(row.indexOf(shop)) >= m) odds[0]++;
        });
        for (int d = odds[1]; d > 1; d--) {
            if (odds[0] % d == 0 && odds[1] % d == 0) {
                odds[0] /= d;
                odds[1] /= d;
            }
        }
        return odds[part];
    }

    private static int bits(boolean[] bought) {
        int set = 0;
        for (int i = 0; i < 6; i++) set += bought[i] ? 1 << i : 0;
        return set;
    }

    int orders(int set, int i) {
        if (!isSet(set)) return UNKNOWN;
        if (!in(i, -1, 5)) return OUTSIDE;
        List<List<Integer>> fit = new ArrayList<>();
        walks((1 << told.shops.size()) - 1, fresh(now.line), List.of(), List.of(), (row, smelt, end) -> {
            if (bits(end.bought) == set) fit.add(row);
        });
        if (i == -1) return fit.size();
        return fit.isEmpty() || i >= fit.get(0).size() ? NONE : fit.get(0).get(i);
    }

    int tells(int shop, int visits, int smelt) {
        if (!known(shop)) return UNKNOWN;
        if (!in(visits, 0, 9) || !in(smelt, 0, 30)) return OUTSIDE;
        if (tells.size() == 6) return FULL;
        tells.add(new Tell(shop, visits, smelt));
        return tells.size();
    }

    int forget() {
        int had = tells.size();
        tells.clear();
        return had;
    }

    int smallest(int sort) {
        if (!in(sort, 0, 3)) return UNKNOWN;
        for (int t = 0; t <= 9; t++) {
            int[] tire = new int[4];
            Arrays.fill(tire, t);
            boolean all = true;
            for (Tell tell : tells) {
                Shop s = told.shops.get(tell.shop);
                int[] tired = new int[4];
                for (int v = 0; v < tell.visits; v++) tireBy(s, tired, tire);
                all &= s.sort != sort || smeltBy(s, tired, 0) == tell.smelt;
            }
            if (all) return t;
        }
        return NONE;
    }

    int count(int what) {
        if (!in(what, 0, 10)) return OUTSIDE;
        return new int[] {told.shops.size(), told.want, now.purse, now.at, now.steps, bits(now.bought), now.cold, now.smelt,
            tells.size(), past.size(), text.length()}[what];
    }
}
