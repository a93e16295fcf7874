import java.math.BigInteger;
import java.util.ArrayDeque;
import java.util.ArrayList;
import java.util.Arrays;
import java.util.Deque;
import java.util.HashMap;
import java.util.HashSet;
import java.util.List;
import java.util.Map;
import java.util.Set;
import java.util.regex.Matcher;
import java.util.regex.Pattern;

/**
 * The document once more, written as slowly and plainly as can be and in other ways than the class
 * (sets and maps, whole enumerations), so that the two can be compared call by call.
 */
final class Model {
    static final int BAD = -1, STATE = -2, FULL = -3, NONE = -9, NO = -1000000;

    private record Pocket(int size, int forbids, int tax, int outer) { }

    private record Thing(int sort, int bulk, int worth, int home) { }

    private record Law(boolean not, int of) { }

    private record Hole(int to, int most) { }

    private record Treaty(int a, int b, int sort) { }

    private record Situation(List<Integer> where, int paid, int days) { }

    private String text = "";
    private List<Pocket> pockets = new ArrayList<>();
    private List<Thing> things = new ArrayList<>();
    private Map<Integer, Law> laws = new HashMap<>();
    private Map<Integer, Hole> holes = new HashMap<>();
    private Set<Set<Integer>> seams = new HashSet<>();
    private Set<Treaty> treaties = new HashSet<>();
    private int treatiesTold;
    private Situation situation = new Situation(List.of(), 0, 0);
    private final Deque<Situation> past = new ArrayDeque<>();
    private final Map<Integer, Situation> images = new HashMap<>();
    private long trace;

    int type(int letter) {
        if (letter < 0 || letter > 255) return BAD;
        if (text.length() == 200) return FULL;
        text += (char) letter;
        return text.length();
    }

    int clear() {
        int had = text.length();
        text = "";
        return had;
    }

    private record Token(int place, String word) { }

    private List<Token> tokens() {
        List<Token> all = new ArrayList<>();
        Matcher m = Pattern.compile("[0-9]+|[^ ]", Pattern.DOTALL).matcher(text);
        while (m.find()) all.add(new Token(m.start(), m.group()));
        return all;
    }

    int realm() {
        Model fresh = new Model();
        int items = 0;
        List<Token> line = new ArrayList<>();
        for (Token token : tokens()) {
            line.add(token);
            if (!fresh.mayStand(line)) return -10 - token.place();
            if (token.word().equals(";")) {
                fresh.tell(line);
                line.clear();
                items++;
            }
        }
        if (!line.isEmpty()) return -10 - text.length();
        pockets = fresh.pockets;
        things = fresh.things;
        laws = fresh.laws;
        holes = fresh.holes;
        seams = fresh.seams;
        treaties = fresh.treaties;
        treatiesTold = fresh.treatiesTold;
        situation = new Situation(things.stream().map(Thing::home).toList(), 0, 0);
        past.clear();
        images.clear();
        text = "";
        return items;
    }

    private boolean mayStand(List<Token> line) {
        String last = line.get(line.size() - 1).word();
        String head = line.get(0).word();
        if (line.size() == 1) {
            if (last.equals("k")) return pockets.size() < 6;
            if (last.equals("t")) return things.size() < 6;
            if (last.equals("y")) return treatiesTold < 12;
            return List.of("a", "n", "s", "h").contains(last);
        }
        String roles = Map.of("k", "zfdo;", "a", "pq;", "n", "pq;", "s", "pq;", "h", "pqb;", "y", "pqs;", "t", "sbdp;").get(head);
        char role = roles.charAt(line.size() - 2);
        if (role == ';') return last.equals(";");
        if (!last.matches("0|[1-9][0-9]?")) return false;
        int n = Integer.parseInt(last);
        return switch (role) {
            case 'z' -> n >= 1 && n <= 20;
            case 'f' -> n <= 63;
            case 'd' -> n <= 9;
            case 's' -> n <= 5;
            case 'b' -> n >= 1 && n <= 5;
            case 'o' -> n == 9 || n < pockets.size();
            case 'p' -> n < pockets.size();
            default -> n < pockets.size() && n != Integer.parseInt(line.get(1).word());
        };
    }

    private void tell(List<Token> line) {
        int[] n = line.stream().skip(1).limit(line.size() - 2).mapToInt(w -> Integer.parseInt(w.word())).toArray();
        switch (line.get(0).word()) {
            case "k" -> pockets.add(new Pocket(n[0], n[1], n[2], n[3]));
            case "a" -> laws.put(n[0], new Law(false, n[1]));
            case "n" -> laws.put(n[0], new Law(true, n[1]));
            case "s" -> seams.add(Set.of(n[0], n[1]));
            case "h" -> holes.put(n[0], new Hole(n[1], n[2]));
            case "y" -> {
                treaties.add(new Treaty(Math.min(n[0], n[1]), Math.max(n[0], n[1]), n[2]));
                treatiesTold++;
            }
            default -> things.add(new Thing(n[0], n[1], n[2], n[3]));
        }
    }

    private boolean isPocket(int k) {
        return k >= 0 && k < pockets.size();
    }

    private boolean isThing(int t) {
        return t >= 0 && t < things.size();
    }

    private int filled(int k) {
        int sum = 0;
        for (int t = 0; t < things.size(); t++) if (situation.where().get(t) == k) sum += things.get(t).bulk();
        return sum;
    }

    private int depth(int k) {
        int outer = pockets.get(k).outer();
        return outer == 9 ? 0 : 1 + depth(outer);
    }

    int pocket(int k, int what) {
        if (!isPocket(k) || what < 0 || what > 7) return BAD;
        Pocket p = pockets.get(k);
        int bits = 0;
        for (int j = 0; j < pockets.size(); j++) if (seams.contains(pair(j, k))) bits += 1 << j;
        int[] row = {p.size(), p.forbids(), p.tax(), p.outer(), filled(k), depth(k), bits,
            holes.containsKey(k) ? holes.get(k).to() : NONE};
        return row[what];
    }

    private static Set<Integer> pair(int a, int b) {
        return new HashSet<>(Arrays.asList(a, b));
    }

    int thing(int t, int what) {
        if (!isThing(t) || what < 0 || what > 4) return BAD;
        Thing x = things.get(t);
        int at = situation.where().get(t);
        return new int[] {x.sort(), x.bulk(), x.worth(), at, lets(at, x.sort()) ? 0 : 1}[what];
    }

    private List<boolean[]> points(int sort) {
        List<boolean[]> all = new ArrayList<>();
        guess(sort, new boolean[pockets.size()], 0, all);
        return all;
    }

    private void guess(int sort, boolean[] allows, int k, List<boolean[]> all) {
        if (k < allows.length) {
            for (boolean b : new boolean[] {false, true}) {
                allows[k] = b;
                guess(sort, allows, k + 1, all);
            }
            return;
        }
        for (int j = 0; j < allows.length; j++) {
            Law law = laws.get(j);
            boolean says = law == null ? (pockets.get(j).forbids() & 1 << sort) == 0 : allows[law.of()] ^ law.not();
            if (says != allows[j]) return;
        }
        all.add(allows.clone());
    }

    private boolean lets(int k, int sort) {
        List<boolean[]> all = points(sort);
        if (all.isEmpty()) return false;
        for (int at = k; at != 9; at = pockets.get(at).outer()) {
            for (boolean[] point : all) if (!point[at]) return false;
        }
        return true;
    }

    int letsIn(int k, int sort) {
        if (!isPocket(k) || sort < 0 || sort > 5) return BAD;
        return lets(k, sort) ? 1 : 0;
    }

    int fixed(int sort) {
        return sort < 0 || sort > 5 ? BAD : points(sort).size();
    }

    int now(int what) {
        if (what < 0 || what > 4) return BAD;
        int outlawed = 0;
        for (int t = 0; t < things.size(); t++) outlawed += thing(t, 4) << t;
        return new int[] {situation.days(), situation.paid(), outlawed, parts(), past.size()}[what];
    }

    private int parts() {
        int[] name = new int[pockets.size()];
        for (int k = 0; k < name.length; k++) name[k] = k;
        for (Set<Integer> seam : seams) {
            List<Integer> two = new ArrayList<>(seam);
            int from = name[two.get(0)];
            int to = name[two.get(1)];
            for (int k = 0; k < name.length; k++) if (name[k] == from) name[k] = to;
        }
        return (int) Arrays.stream(name).distinct().count();
    }

    private void remember() {
        past.addLast(situation);
        if (past.size() > 10) past.removeFirst();
    }

    private void put(int t, int k, int price) {
        List<Integer> where = new ArrayList<>(situation.where());
        where.set(t, k);
        situation = new Situation(where, situation.paid() + price, situation.days());
    }

    private int price(int a, int b, int sort, Set<Treaty> valid) {
        return valid.contains(new Treaty(Math.min(a, b), Math.max(a, b), sort)) ? 0 : pockets.get(b).tax();
    }

    int moves(int t, int k) {
        if (!isThing(t) || !isPocket(k)) return BAD;
        int from = situation.where().get(t);
        Thing x = things.get(t);
        if (!seams.contains(pair(from, k)) || !lets(k, x.sort())) return STATE;
        if (filled(k) + x.bulk() > pockets.get(k).size()) return STATE;
        remember();
        int price = price(from, k, x.sort(), treaties);
        put(t, k, price);
        return price;
    }

    int night() {
        if (situation.days() == 999) return STATE;
        remember();
        int n = 0;
        for (int t = 0; t < things.size(); t++) {
            Hole hole = holes.get(situation.where().get(t));
            int bulk = things.get(t).bulk();
            if (hole != null && bulk <= hole.most() && filled(hole.to()) + bulk <= pockets.get(hole.to()).size()) {
                put(t, hole.to(), 0);
                n++;
            }
        }
        situation = new Situation(situation.where(), situation.paid(), situation.days() + 1);
        return n;
    }

    int undo() {
        if (past.isEmpty()) return STATE;
        situation = past.removeLast();
        return past.size();
    }

    private int walk(int at, int to, int sort, boolean priced, Set<Treaty> valid, Set<Integer> been) {
        if (at == to) return 0;
        int best = NONE;
        for (int k = 0; k < pockets.size(); k++) {
            if (been.contains(k) || !seams.contains(pair(at, k)) || !lets(k, sort)) continue;
            Set<Integer> more = new HashSet<>(been);
            more.add(k);
            int rest = walk(k, to, sort, priced, valid, more);
            int step = priced ? price(at, k, sort, valid) : 1;
            if (rest != NONE && (best == NONE || rest + step < best)) best = rest + step;
        }
        return best;
    }

    private int cheapest(int t, int k, Set<Treaty> valid) {
        int at = situation.where().get(t);
        return walk(at, k, things.get(t).sort(), true, valid, Set.of(at));
    }

    int way(int t, int k, int what) {
        if (!isThing(t) || !isPocket(k) || what < 0 || what > 1) return BAD;
        int at = situation.where().get(t);
        return what == 1 ? cheapest(t, k, treaties) : walk(at, k, things.get(t).sort(), false, treaties, Set.of(at));
    }

    int stow(int t) {
        if (t != -1 && !isThing(t)) return BAD;
        int n = things.size();
        boolean[][] may = new boolean[n][pockets.size()];
        for (int i = 0; i < n; i++) for (int k = 0; k < pockets.size(); k++) may[i][k] = lets(k, things.get(i).sort());
        int[] best = null;
        int fewest = 99;
        int[] plan = new int[n];
        long all = 1;
        for (int i = 0; i < n; i++) all *= pockets.size();
        for (long code = 0; code < all; code++) {
            long rest = code;
            for (int i = n - 1; i >= 0; i--) {
                plan[i] = (int) (rest % pockets.size());
                rest /= pockets.size();
            }
            int moved = movedBy(plan, may);
            if (moved >= 0 && moved < fewest) {
                fewest = moved;
                best = plan.clone();
            }
        }
        return best == null ? NONE : t == -1 ? fewest : best[t];
    }

    private int movedBy(int[] plan, boolean[][] may) {
        int[] load = new int[pockets.size()];
        int moved = 0;
        for (int i = 0; i < plan.length; i++) {
            if (!may[i][plan[i]]) return -1;
            load[plan[i]] += things.get(i).bulk();
            if (plan[i] != situation.where().get(i)) moved++;
        }
        for (int k = 0; k < load.length; k++) if (load[k] > pockets.get(k).size()) return -1;
        return moved;
    }

    int hoard(int k) {
        return isPocket(k) ? fill(k, 0, pockets.get(k).size()) : BAD;
    }

    private int fill(int k, int t, int room) {
        if (t == things.size()) return 0;
        int without = fill(k, t + 1, room);
        Thing x = things.get(t);
        if (x.bulk() > room || !lets(k, x.sort())) return without;
        return Math.max(without, x.worth() + fill(k, t + 1, room - x.bulk()));
    }

    int saves(int t, int k) {
        if (!isThing(t) || !isPocket(k)) return BAD;
        int best = cheapest(t, k, treaties);
        int found = NONE;
        for (int code = 0; code < 600; code++) {
            int a = code / 100;
            int b = code / 10 % 10;
            Treaty treaty = new Treaty(a, b, code % 10);
            if (a >= b || treaty.sort() > 5 || !seams.contains(pair(a, b)) || treaties.contains(treaty)) continue;
            Set<Treaty> more = new HashSet<>(treaties);
            more.add(treaty);
            int then = cheapest(t, k, more);
            if (then < best) {
                best = then;
                found = code;
            }
        }
        return found;
    }

    /** Whether a thing of that bulk, alone, can drop from there. */
    private boolean canDrop(int k, int bulk) {
        Hole hole = holes.get(k);
        return hole != null && bulk <= hole.most() && bulk <= pockets.get(hole.to()).size();
    }

    private int fall(int k, int bulk, int n) {
        if (n == 0) return k;
        return fall(canDrop(k, bulk) ? holes.get(k).to() : k, bulk, n - 1);
    }

    int drops(int t, int n) {
        if (!isThing(t) || n < 0 || n > 20) return BAD;
        return fall(situation.where().get(t), things.get(t).bulk(), n);
    }

    int lay(int t, int n) {
        if (!isThing(t) || n < 0 || n > 20) return BAD;
        int bits = 0;
        for (int k = 0; k < pockets.size(); k++) {
            if (fall(k, things.get(t).bulk(), n) == situation.where().get(t)) bits |= 1 << k;
        }
        return bits;
    }

    private boolean comes(int from, int to, int stitched) {
        int at = from;
        for (int i = 0; i < 20; i++) {
            if (at == to) return true;
            if (at == stitched || !canDrop(at, 1)) return false;
            at = holes.get(at).to();
        }
        return false;
    }

    int stitches(int from, int to, int what) {
        if (!isPocket(from) || !isPocket(to) || from == to || what < 0 || what > 1) return BAD;
        if (!comes(from, to, NONE)) return what == 0 ? 0 : NONE;
        for (int k = 0; k < pockets.size(); k++) {
            if (holes.containsKey(k) && !comes(from, to, k)) return what == 0 ? 1 : k;
        }
        throw new IllegalStateException("one stitch is not enough");
    }

    int odds(int t, int k, int p, int n, int what) {
        if (!isThing(t) || !isPocket(k) || p < 0 || p > 10 || n < 0 || n > 6 || what < 0 || what > 1) return BAD;
        BigInteger upper = BigInteger.valueOf(tenths(situation.where().get(t), k, things.get(t).bulk(), p, n));
        BigInteger lower = BigInteger.TEN.pow(n);
        return (what == 0 ? upper : lower).divide(upper.gcd(lower)).intValueExact();
    }

    private long tenths(int at, int k, int bulk, int p, int n) {
        if (n == 0) return at == k ? 1 : 0;
        if (!canDrop(at, bulk)) return 10 * tenths(at, k, bulk, p, n - 1);
        return p * tenths(holes.get(at).to(), k, bulk, p, n - 1) + (10 - p) * tenths(at, k, bulk, p, n - 1);
    }

    int rate(int kind, int k) {
        if (kind < 0 || kind > 5 || !isPocket(k)) return NO;
        int[] above = {-1, 0, 0, 1, 2, 0};
        trace += (long) Math.pow(10, kind);
        if (kind == 0) return filled(k);
        int up = rate(above[kind], k);
        return switch (kind) {
            case 1 -> up + pockets.get(k).size();
            case 2 -> up - pockets.get(k).tax();
            case 3 -> up + up;
            case 4 -> up + k;
            default -> up + depth(k);
        };
    }

    int keep(int image) {
        if (image < 0 || image > 1) return BAD;
        images.put(image, situation);
        return situation.days();
    }

    int back(int image) {
        if (image < 0 || image > 1) return BAD;
        if (!images.containsKey(image)) return STATE;
        situation = images.get(image);
        past.clear();
        return situation.days();
    }

    int count(int what) {
        if (what < 0 || what > 3) return BAD;
        return new int[] {pockets.size(), things.size(), treatiesTold, text.length()}[what];
    }

    long trace() {
        return trace;
    }
}
