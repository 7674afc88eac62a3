import java.math.BigInteger;
import java.util.ArrayDeque;
import java.util.ArrayList;
import java.util.Arrays;
import java.util.Collections;
import java.util.List;

/**
 * The document once more, in the plainest way and by other means than the class: whole copies for STEPS and images,
 * laws as trees, ways and rounds by trying all. ModelTest holds the class against it.
 */
public final class Model {
    static final class Road {
        int a;
        int b;
        int length;
        int first;
        int thick;

        Road copy() {
            Road r = new Road();
            r.a = a;
            r.b = b;
            r.length = length;
            r.first = first;
            r.thick = thick;
            return r;
        }

        int other(int town) {
            return town == a ? b : a;
        }

        boolean at(int town) {
            return town == a || town == b;
        }
    }

    static final class Goer {
        int toldTown;
        int town;
        int mouth;
        int went;

        Goer copy() {
            Goer g = new Goer();
            g.toldTown = toldTown;
            g.town = town;
            g.mouth = mouth;
            g.went = went;
            return g;
        }
    }

    static final class World {
        List<Road> roads = new ArrayList<>();
        List<Goer> goers = new ArrayList<>();
        int coil = 20;
        int rain = 0;
        int day = 0;
        int x = 283;
        List<int[]> book = new ArrayList<>();
        List<ModelText> texts = new ArrayList<>();
        int ruling = -1;
        List<int[]> said = new ArrayList<>();
        List<World> steps = new ArrayList<>();

        World copy() {
            World w = new World();
            for (Road r : roads) {
                w.roads.add(r.copy());
            }
            for (Goer g : goers) {
                w.goers.add(g.copy());
            }
            w.coil = coil;
            w.rain = rain;
            w.day = day;
            w.x = x;
            w.book.addAll(book);
            w.texts.addAll(texts);
            w.ruling = ruling;
            w.said.addAll(said);
            w.steps.addAll(steps);
            return w;
        }
    }

    private World w = new World();
    private World image = new World();
    private final List<Integer> tape = new ArrayList<>();
    private int fault = -1;
    private int place = -1;

    private boolean isRoad(int r) {
        return r >= 0 && r < w.roads.size();
    }

    private boolean isGoer(int g) {
        return g >= 0 && g < w.goers.size();
    }

    private static boolean in(int n, int low, int high) {
        return low <= n && n <= high;
    }

    public int road(int a, int b, int length, int thick) {
        if (!in(a, 0, 7) || !in(b, 0, 7) || a == b || !in(length, 1, 9) || !in(thick, 1, 99) || w.roads.size() == 16) {
            return -1;
        }
        Road r = new Road();
        r.a = a;
        r.b = b;
        r.length = length;
        r.first = thick;
        r.thick = thick;
        w.roads.add(r);
        return w.roads.size() - 1;
    }

    public int goer(int town, int mouth) {
        if (!in(town, 0, 7) || !in(mouth, 1, 9) || w.goers.size() == 6) {
            return -1;
        }
        Goer g = new Goer();
        g.toldTown = town;
        g.town = town;
        g.mouth = mouth;
        w.goers.add(g);
        return w.goers.size() - 1;
    }

    public int feed(int a, int b, int c, int d, int e) {
        if (tape.size() > 280) {
            return -1;
        }
        for (int word : new int[] {a, b, c, d, e}) {
            tape.add(word >>> 24);
            tape.add(word >>> 16 & 255);
            tape.add(word >>> 8 & 255);
            tape.add(word & 255);
        }
        return tape.size();
    }

    public int end(int n) {
        if (n < 0 || n > tape.size()) {
            return -1;
        }
        tape.subList(n, tape.size()).clear();
        return n;
    }

    public int text() {
        if (w.texts.size() == 4) {
            return -1;
        }
        StringBuilder s = new StringBuilder();
        for (int b : tape) {
            s.append((char) b);
        }
        tape.clear();
        ModelText t = new ModelText(s.toString());
        fault = t.fault;
        place = t.place;
        if (fault != 0) {
            return -1;
        }
        w.texts.add(t);
        return w.texts.size() - 1;
    }

    public int fault(int what) {
        return what == 0 ? fault : what == 1 ? place : -1;
    }

    public boolean by(int text) {
        if (!in(text, -1, w.texts.size() - 1)) {
            return false;
        }
        w.ruling = text;
        return true;
    }

    private ModelText.Env env(int goer, int road) {
        ModelText.Env e = new ModelText.Env();
        Road r = w.roads.get(road);
        e.names.put("day", w.day);
        e.names.put("rain", w.rain);
        e.names.put("way", road);
        e.names.put("long", r.length);
        e.names.put("thick", r.thick);
        e.names.put("first", r.first);
        if (goer >= 0) {
            e.names.put("mouth", w.goers.get(goer).mouth);
            e.names.put("went", w.goers.get(goer).went);
            e.names.put("who", goer);
        }
        for (Road each : w.roads) {
            e.thicks.add(each.thick);
        }
        return e;
    }

    private int sucksBy(int text, int goer, int road) {
        ModelText t = text < 0 ? null : w.texts.get(text);
        if (t == null || t.sucks == null) {
            return 1 + w.goers.get(goer).mouth / 3;
        }
        return Math.min(99, Math.max(0, t.sucks.ask(env(goer, road))));
    }

    private int swells(int road) {
        ModelText t = w.ruling < 0 ? null : w.texts.get(w.ruling);
        if (t == null || t.swells == null) {
            return w.rain;
        }
        return Math.min(9, Math.max(0, t.swells.ask(env(-1, road))));
    }

    private boolean canGo(int goer, int road) {
        return isGoer(goer) && isRoad(road) && w.roads.get(road).at(w.goers.get(goer).town)
            && sucksBy(w.ruling, goer, road) <= w.roads.get(road).thick;
    }

    private void goes(int goer, int road) {
        int much = sucksBy(w.ruling, goer, road);
        Goer g = w.goers.get(goer);
        Road r = w.roads.get(road);
        r.thick -= much;
        g.town = r.other(g.town);
        g.went = Math.min(9999, g.went + 1);
        w.book.add(new int[] {w.day, goer, road, much});
        if (w.book.size() > 30) {
            w.book.remove(0);
        }
    }

    private void step() {
        World before = w.copy();
        before.steps.clear();
        w.steps.add(before);
        if (w.steps.size() > 30) {
            w.steps.remove(0);
        }
    }

    public int go(int goer, int road) {
        if (!canGo(goer, road)) {
            return -1;
        }
        step();
        goes(goer, road);
        return w.goers.get(goer).town;
    }

    private boolean canLay(int road) {
        return isRoad(road) && w.roads.get(road).thick < w.roads.get(road).first && w.coil >= w.roads.get(road).length;
    }

    private void lays(int road) {
        w.roads.get(road).thick = w.roads.get(road).first;
        w.coil -= w.roads.get(road).length;
    }

    public boolean relay(int road) {
        if (!canLay(road)) {
            return false;
        }
        step();
        lays(road);
        return true;
    }

    public boolean coil(int miles) {
        if (!in(miles, 1, 99) || w.coil + miles > 999) {
            return false;
        }
        step();
        w.coil += miles;
        return true;
    }

    private int draw(int by) {
        int drawn = w.x % by;
        w.x = (w.x * 547 + 421) % 30727;
        return drawn;
    }

    private int oneDay() {
        w.rain = draw(10) < 3 ? 1 : 0;
        int count = 0;
        for (int g = 0; g < w.goers.size(); g++) {
            List<Integer> open = new ArrayList<>();
            for (int r = 0; r < w.roads.size(); r++) {
                if (canGo(g, r)) {
                    open.add(r);
                }
            }
            if (!open.isEmpty()) {
                goes(g, open.get(draw(open.size())));
                count++;
            }
        }
        for (int r = 0; r < w.roads.size(); r++) {
            Road road = w.roads.get(r);
            road.thick = Math.min(road.first, road.thick + swells(r));
        }
        w.day++;
        return count;
    }

    public int day(int n) {
        if (!in(n, 1, 60) || w.day + n > 9999) {
            return -1;
        }
        int count = 0;
        for (int i = 0; i < n; i++) {
            step();
            count += oneDay();
        }
        return count;
    }

    public int played(int text) {
        if (!in(text, 0, w.texts.size() - 1)) {
            return -2;
        }
        List<Object[]> clauses = w.texts.get(text).clauses;
        for (int i = 0; i < clauses.size(); i++) {
            if (!play(clauses.get(i))) {
                return i;
            }
        }
        return -1;
    }

    private boolean play(Object[] c) {
        switch ((String) c[0]) {
            case "road": return road((int) c[1], (int) c[2], (int) c[3], (int) c[4]) != -1;
            case "goer": return goer((int) c[1], (int) c[2]) != -1;
            case "go": return go((int) c[2], (int) c[1]) != -1;
            case "relay": return relay((int) c[1]);
            case "coil": return coil((int) c[1]);
            case "day":
                for (int i = 0; i < (int) c[1]; i++) {
                    if (day(1) == -1) {
                        return false;
                    }
                }
                return true;
            default: return true;
        }
    }

    public int years(int seed, int n) {
        if (!in(seed, 0, 9999) || !in(n, 1, 40)) {
            return -1;
        }
        step();
        w.x = seed * 2 + 283;
        for (int i = 0; i < n; i++) {
            int x = w.x;
            draw(1);
            int goers = w.goers.size();
            int roads = w.roads.size();
            if (x % 6 <= 1) {
                if (goers > 0 && roads > 0 && canGo(x % goers, x / 6 % roads)) {
                    goes(x % goers, x / 6 % roads);
                }
            } else if (x % 6 == 2) {
                if (roads > 0 && canLay(x / 6 % roads)) {
                    lays(x / 6 % roads);
                }
            } else if (x % 6 == 3) {
                if (w.coil + 1 + x % 9 <= 999) {
                    w.coil += 1 + x % 9;
                }
            } else if (w.day < 9999) {
                oneDay();
            }
        }
        return w.day;
    }

    public int undo() {
        if (w.steps.isEmpty()) {
            return -1;
        }
        World before = w.steps.remove(w.steps.size() - 1);
        for (int r = 0; r < w.roads.size(); r++) {
            w.roads.get(r).thick = r < before.roads.size() ? before.roads.get(r).thick : w.roads.get(r).first;
        }
        for (int g = 0; g < w.goers.size(); g++) {
            boolean then = g < before.goers.size();
            w.goers.get(g).town = then ? before.goers.get(g).town : w.goers.get(g).toldTown;
            w.goers.get(g).went = then ? before.goers.get(g).went : 0;
        }
        w.coil = before.coil;
        w.rain = before.rain;
        w.day = before.day;
        w.x = before.x;
        w.book = new ArrayList<>(before.book);
        return w.steps.size();
    }

    public int of(int road, int what) {
        if (!isRoad(road) || !in(what, 0, 5)) {
            return -1;
        }
        Road r = w.roads.get(road);
        return new int[] {r.a, r.b, r.length, r.thick, r.first, swells(road)}[what];
    }

    private int openBits(int goer) {
        int bits = 0;
        for (int r = 0; r < w.roads.size(); r++) {
            bits |= canGo(goer, r) ? 1 << r : 0;
        }
        return bits;
    }

    public int ofGoer(int goer, int what) {
        if (!isGoer(goer) || !in(what, 0, 3)) {
            return -1;
        }
        Goer g = w.goers.get(goer);
        return new int[] {g.town, g.mouth, g.went, openBits(goer)}[what];
    }

    public int sucks(int goer, int road) {
        return isGoer(goer) && isRoad(road) ? sucksBy(w.ruling, goer, road) : -1;
    }

    public int is(int what) {
        return in(what, 0, 3) ? new int[] {w.day, w.x, w.rain, w.coil}[what] : -2;
    }

    public int book(int i, int what) {
        if (i == -1) {
            return w.book.size();
        }
        return in(i, 0, w.book.size() - 1) && in(what, 0, 3) ? w.book.get(i)[what] : -2;
    }

    public int foretold(int n, int what, int which) {
        if (!in(n, 1, 60) || !in(what, 0, 2) || (what == 0 ? !isRoad(which) : !isGoer(which))) {
            return -1;
        }
        World kept = w;
        w = w.copy();
        for (int i = 0; i < n && w.day < 9999; i++) {
            oneDay();
        }
        int seen = what == 0 ? w.roads.get(which).thick : what == 1 ? w.goers.get(which).town : w.goers.get(which).went;
        w = kept;
        return seen;
    }

    /** All ways without a TOWN twice, each as a list of ROADS. */
    private List<List<Integer>> ways(int a, int b, int thick) {
        List<List<Integer>> found = new ArrayList<>();
        seek(a, b, thick, 1 << a, new ArrayList<>(), found);
        return found;
    }

    private void seek(int at, int b, int thick, int seen, List<Integer> way, List<List<Integer>> found) {
        if (at == b) {
            found.add(new ArrayList<>(way));
            return;
        }
        for (int r = 0; r < w.roads.size(); r++) {
            Road road = w.roads.get(r);
            if (road.at(at) && road.thick >= thick && (seen >> road.other(at) & 1) == 0) {
                way.add(r);
                seek(road.other(at), b, thick, seen | 1 << road.other(at), way, found);
                way.remove(way.size() - 1);
            }
        }
    }

    private int lengthOf(List<Integer> way) {
        int sum = 0;
        for (int r : way) {
            sum += w.roads.get(r).length;
        }
        return sum;
    }

    private static int compareLists(List<Integer> one, List<Integer> other) {
        for (int i = 0; i < Math.min(one.size(), other.size()); i++) {
            if (!one.get(i).equals(other.get(i))) {
                return Integer.compare(one.get(i), other.get(i));
            }
        }
        return Integer.compare(one.size(), other.size());
    }

    private List<Integer> bestWay(int a, int b, int thick) {
        List<Integer> best = null;
        for (List<Integer> way : ways(a, b, thick)) {
            int less = best == null ? -1 : Integer.compare(lengthOf(way), lengthOf(best));
            if (less < 0 || less == 0 && compareLists(way, best) < 0) {
                best = way;
            }
        }
        return best;
    }

    public int miles(int a, int b, int thick) {
        if (!in(a, 0, 7) || !in(b, 0, 7) || !in(thick, 0, 99)) {
            return -1;
        }
        List<Integer> best = bestWay(a, b, thick);
        return best == null ? -1 : lengthOf(best);
    }

    public int way(int a, int b, int thick, int i) {
        if (!in(a, 0, 7) || !in(b, 0, 7) || !in(thick, 0, 99)) {
            return -2;
        }
        List<Integer> best = bestWay(a, b, thick);
        return best == null || !in(i, 0, best.size() - 1) ? -2 : best.get(i);
    }

    private static boolean unlike(int a, int b) {
        return in(a, 0, 7) && in(b, 0, 7) && a != b;
    }

    public int widest(int a, int b) {
        int best = -1;
        if (unlike(a, b)) {
            for (List<Integer> way : ways(a, b, 0)) {
                int least = 100;
                for (int r : way) {
                    least = Math.min(least, w.roads.get(r).thick);
                }
                best = Math.max(best, least);
            }
        }
        return best;
    }

    /** Ways with room left are filled up till there is none. */
    public int flow(int a, int b) {
        if (!unlike(a, b)) {
            return -1;
        }
        int[][] room = new int[8][8];
        for (Road r : w.roads) {
            room[r.a][r.b] += r.thick;
            room[r.b][r.a] += r.thick;
        }
        int sum = 0;
        while (true) {
            int[] from = new int[8];
            Arrays.fill(from, -1);
            from[a] = a;
            ArrayDeque<Integer> queue = new ArrayDeque<>(List.of(a));
            while (!queue.isEmpty()) {
                int t = queue.poll();
                for (int u = 0; u < 8; u++) {
                    if (from[u] < 0 && room[t][u] > 0) {
                        from[u] = t;
                        queue.add(u);
                    }
                }
            }
            if (from[b] < 0) {
                return sum;
            }
            for (int t = b; t != a; t = from[t]) {
                room[from[t]][t]--;
                room[t][from[t]]++;
            }
            sum++;
        }
    }

    public int cut(int a, int b) {
        if (!unlike(a, b)) {
            return -1;
        }
        int flow = flow(a, b);
        for (int set = 0; set < 256; set++) {
            int sum = 0;
            for (Road r : w.roads) {
                sum += (set >> r.a & 1) != (set >> r.b & 1) ? r.thick : 0;
            }
            if ((set >> a & 1) == 1 && (set >> b & 1) == 0 && sum == flow) {
                return set;
            }
        }
        throw new IllegalStateException("a flow without a cut");
    }

    /** TOWNS that can be come to over these ROADS (bits) of the NET. */
    private int reached(int town, int roads) {
        int seen = 1 << town;
        for (int i = 0; i < 8; i++) {
            for (int r = 0; r < w.roads.size(); r++) {
                Road road = w.roads.get(r);
                if ((roads >> r & 1) == 1 && road.thick > 0 && ((seen >> road.a | seen >> road.b) & 1) == 1) {
                    seen |= 1 << road.a | 1 << road.b;
                }
            }
        }
        return seen;
    }

    private int netRoads() {
        int bits = 0;
        for (int r = 0; r < w.roads.size(); r++) {
            bits |= w.roads.get(r).thick > 0 ? 1 << r : 0;
        }
        return bits;
    }

    private int netTowns() {
        return 255 & ~lonely();
    }

    public int tree(boolean roads) {
        List<Integer> order = new ArrayList<>();
        for (int r = 0; r < w.roads.size(); r++) {
            order.add(r);
        }
        order.sort((p, q) -> Integer.compare(w.roads.get(p).length * 16 + p, w.roads.get(q).length * 16 + q));
        int kept = 0;
        int sum = 0;
        for (int r : order) {
            Road road = w.roads.get(r);
            if (road.thick > 0 && (reached(road.a, kept) >> road.b & 1) == 0) {
                kept |= 1 << r;
                sum += road.length;
            }
        }
        return roads ? kept : sum;
    }

    public int bridges() {
        int found = 0;
        for (int r = 0; r < w.roads.size(); r++) {
            Road road = w.roads.get(r);
            if (road.thick > 0 && (reached(road.a, 0xffff & ~(1 << r)) >> road.b & 1) == 0) {
                found |= 1 << r;
            }
        }
        return found;
    }

    /** The miles of the round, by all TOWNS and sets of ROADS that were gone over. */
    public int carter(int town) {
        int all = netRoads();
        if (!in(town, 0, 7) || (netTowns() >> town & 1) == 0 || (netTowns() & ~reached(town, 0xffff)) != 0) {
            return -1;
        }
        int size = 1 << w.roads.size();
        boolean[] known = new boolean[8 * size];
        List<ArrayDeque<Integer>> queues = new ArrayList<>();
        for (int i = 0; i <= 300; i++) {
            queues.add(new ArrayDeque<>());
        }
        queues.get(0).add(town * size);
        for (int miles = 0; miles <= 290; miles++) {
            while (!queues.get(miles).isEmpty()) {
                int spot = queues.get(miles).poll();
                if (known[spot]) {
                    continue;
                }
                known[spot] = true;
                int at = spot / size;
                int gone = spot % size;
                if (at == town && gone == all) {
                    return miles;
                }
                for (int r = 0; r < w.roads.size(); r++) {
                    Road road = w.roads.get(r);
                    if (road.thick > 0 && road.at(at) && miles + road.length <= 290) {
                        queues.get(miles + road.length).add(road.other(at) * size + (gone | 1 << r));
                    }
                }
            }
        }
        throw new IllegalStateException("no round");
    }

    public int centre() {
        int best = -1;
        int fewest = 1000;
        for (int t = 0; t < 8; t++) {
            if ((netTowns() >> t & 1) == 1) {
                int most = 0;
                for (int u = 0; u < 8; u++) {
                    most = Math.max(most, miles(t, u, 1));
                }
                if (most < fewest) {
                    fewest = most;
                    best = t;
                }
            }
        }
        return best;
    }

    public int pieces() {
        int left = netTowns();
        int count = 0;
        for (int t = 0; t < 8; t++) {
            if ((left >> t & 1) == 1) {
                left &= ~reached(t, 0xffff);
                count++;
            }
        }
        return count;
    }

    public int times(int goer, int road) {
        if (!isGoer(goer) || !isRoad(road)) {
            return -1;
        }
        World kept = w;
        w = w.copy();
        int count = 0;
        while (count < 99 && sucks(goer, road) <= w.roads.get(road).thick) {
            w.roads.get(road).thick -= sucks(goer, road);
            count++;
        }
        w = kept;
        return count;
    }

    private List<Integer> bestCrowd(int road, List<Integer> before) {
        List<Integer> best = before;
        for (int g = w.goers.size() - 1; g >= 0; g--) {
            int much = sucks(g, road);
            Road r = w.roads.get(road);
            if (!before.contains(g) && much <= r.thick) {
                List<Integer> more = new ArrayList<>(before);
                more.add(g);
                r.thick -= much;
                List<Integer> found = bestCrowd(road, more);
                r.thick += much;
                if (found.size() > best.size() || found.size() == best.size() && compareLists(found, best) < 0) {
                    best = found;
                }
            }
        }
        return best;
    }

    public int crowd(int road, int i) {
        if (!isRoad(road)) {
            return -2;
        }
        List<Integer> best = bestCrowd(road, Collections.emptyList());
        if (i == -1) {
            return best.size();
        }
        return in(i, 0, best.size() - 1) ? best.get(i) : -2;
    }

    private long whoFrom(int goer, int road, int left) {
        if (goer == w.goers.size()) {
            return left == 0 ? 1 : 0;
        }
        int much = sucks(goer, road);
        return whoFrom(goer + 1, road, left) + whoFrom(goer + 1, road, left - much)
            + whoFrom(goer + 1, road, left - 2 * much) + whoFrom(goer + 1, road, left - 3 * much);
    }

    public long who(int road) {
        if (!isRoad(road) || road >= image.roads.size()) {
            return -1;
        }
        World kept = w;
        w = w.copy();
        int left = image.roads.get(road).thick - w.roads.get(road).thick;
        w.roads.get(road).thick = image.roads.get(road).thick;
        long found = whoFrom(0, road, left);
        w = kept;
        return found;
    }

    public int watch(boolean many) {
        for (int size = 0; size <= 8; size++) {
            for (int set = 0; set < 256; set++) {
                boolean all = Integer.bitCount(set) == size;
                for (Road r : w.roads) {
                    all &= r.thick == 0 || ((set >> r.a | set >> r.b) & 1) == 1;
                }
                if (all) {
                    return many ? size : set;
                }
            }
        }
        throw new IllegalStateException("unwatched");
    }

    private boolean canColour(int town, int[] colour, int k) {
        if (town == 8) {
            return true;
        }
        for (int c = 0; c < k; c++) {
            boolean free = true;
            for (Road r : w.roads) {
                free &= r.thick == 0 || !r.at(town) || r.other(town) > town || colour[r.other(town)] != c;
            }
            colour[town] = c;
            if (free && canColour(town + 1, colour, k)) {
                return true;
            }
        }
        return false;
    }

    public int colours() {
        int k = 1;
        while (!canColour(0, new int[8], k)) {
            k++;
        }
        return k;
    }

    private BigInteger[] chance(int at, int n, int to) {
        if (n == 0) {
            return new BigInteger[] {at == to ? BigInteger.ONE : BigInteger.ZERO, BigInteger.ONE};
        }
        BigInteger up = BigInteger.ZERO;
        BigInteger down = BigInteger.ONE;
        int count = 0;
        for (Road r : w.roads) {
            if (r.thick > 0 && r.at(at)) {
                BigInteger[] part = chance(r.other(at), n - 1, to);
                up = up.multiply(part[1]).add(part[0].multiply(down));
                down = down.multiply(part[1]);
                count++;
            }
        }
        if (count == 0) {
            return chance(at, n - 1, to);
        }
        down = down.multiply(BigInteger.valueOf(count));
        BigInteger gcd = up.gcd(down);
        return new BigInteger[] {up.divide(gcd), down.divide(gcd)};
    }

    public long likely(int town, int n, int to, boolean low) {
        if (!in(town, 0, 7) || !in(to, 0, 7) || !in(n, 0, 3)) {
            return -1;
        }
        BigInteger[] found = chance(town, n, to);
        return found[low ? 1 : 0].longValueExact();
    }

    private int bestRing;

    private void trail(int home, int at, int gone, int miles) {
        for (int r = 0; r < w.roads.size(); r++) {
            Road road = w.roads.get(r);
            if (road.thick > 0 && road.at(at) && (gone >> r & 1) == 0 && miles + road.length < bestRing) {
                if (road.other(at) == home) {
                    bestRing = miles + road.length;
                } else {
                    trail(home, road.other(at), gone | 1 << r, miles + road.length);
                }
            }
        }
    }

    public int ring(int town) {
        if (!in(town, 0, 7)) {
            return -1;
        }
        bestRing = 1000;
        trail(town, town, 0, 0);
        return bestRing < 1000 ? bestRing : -1;
    }

    public int stranded() {
        int bits = 0;
        for (int g = 0; g < w.goers.size(); g++) {
            bits |= openBits(g) == 0 ? 1 << g : 0;
        }
        return bits;
    }

    public int said(int goer, int road, int sucks) {
        if (goer == -1) {
            w.said.clear();
            return 0;
        }
        if (!isGoer(goer) || !isRoad(road) || !in(sucks, 0, 99) || w.said.size() == 8) {
            return -2;
        }
        w.said.add(new int[] {goer, road, sucks});
        return w.said.size();
    }

    public int whose() {
        int bits = 0;
        for (int t = 0; t < w.texts.size(); t++) {
            boolean all = true;
            for (int[] s : w.said) {
                all &= sucksBy(t, s[0], s[1]) == s[2];
            }
            bits |= all ? 1 << t : 0;
        }
        return bits;
    }

    public int thinnest() {
        for (int thick = 0; thick <= 99; thick++) {
            for (int r = 0; r < w.roads.size(); r++) {
                if (w.roads.get(r).thick == thick) {
                    return r;
                }
            }
        }
        return -1;
    }

    public int busiest() {
        int best = -1;
        for (int g = w.goers.size() - 1; g >= 0; g--) {
            int went = w.goers.get(g).went;
            if (went > 0 && (best < 0 || went >= w.goers.get(best).went)) {
                best = g;
            }
        }
        return best;
    }

    public int lonely() {
        int bits = 255;
        for (Road r : w.roads) {
            if (r.thick > 0) {
                bits &= ~(1 << r.a | 1 << r.b);
            }
        }
        return bits;
    }

    public int ledger(int goer) {
        if (goer != -1 && !isGoer(goer)) {
            return -2;
        }
        int sum = 0;
        for (int[] going : w.book) {
            sum += goer == -1 || going[1] == goer ? going[3] : 0;
        }
        return sum;
    }

    public int image() {
        image = w.copy();
        return w.day;
    }

    public int back() {
        w = image.copy();
        return w.day;
    }

    public int about(int what) {
        int[] all = {w.roads.size(), w.goers.size(), w.texts.size(), w.ruling, w.steps.size(), w.said.size(), tape.size()};
        return in(what, 0, 6) ? all[what] : -2;
    }
}
