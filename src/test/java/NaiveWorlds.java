import java.util.ArrayList;
import java.util.Arrays;
import java.util.Comparator;
import java.util.HashMap;
import java.util.List;
import java.util.Map;
import java.util.NoSuchElementException;
import java.util.TreeMap;

/**
 * The document told again in the plainest way, slow and without limits of room: trees are texts,
 * the order is found from paths, and what is like 0 from all laws put everywhere. The class is
 * held against it in random runs.
 */
final class NaiveWorlds {
    static final class Fault extends RuntimeException {
        private static final long serialVersionUID = 1L;
        final int kind;
        final int place;

        Fault(int kind, int place) {
            this.kind = kind;
            this.place = place;
        }
    }

    /** A tree: act -1 is a leaf. */
    record Tree(int act, List<Tree> kids) {
        static final Tree LEAF = new Tree(-1, List.of());

        int leaves() {
            if (act < 0) {
                return 1;
            }
            int all = 0;
            for (Tree kid : kids) {
                all += kid.leaves();
            }
            return all;
        }

        List<List<Integer>> paths() {
            List<List<Integer>> all = new ArrayList<>();
            if (act < 0) {
                all.add(List.of());
                return all;
            }
            for (Tree kid : kids) {
                for (List<Integer> path : kid.paths()) {
                    List<Integer> longer = new ArrayList<>();
                    longer.add(act);
                    longer.addAll(path);
                    all.add(longer);
                }
            }
            return all;
        }

        String text(List<String> names) {
            if (act < 0) {
                return "x";
            }
            StringBuilder s = new StringBuilder(names.get(act)).append('(');
            for (int i = 0; i < kids.size(); i++) {
                s.append(i == 0 ? "" : ",").append(kids.get(i).text(names));
            }
            return s.append(')').toString();
        }

        /** Trees in place of the leaves, taken from the front of the list. */
        Tree filled(List<Tree> with) {
            if (act < 0) {
                return with.remove(0);
            }
            List<Tree> now = new ArrayList<>();
            for (Tree kid : kids) {
                now.add(kid.filled(with));
            }
            return new Tree(act, now);
        }

        Tree put(int leaf, Tree small) {
            List<Tree> with = new ArrayList<>();
            for (int i = 0; i < leaves(); i++) {
                with.add(i == leaf ? small : LEAF);
            }
            return filled(with);
        }

        boolean matchesAtRoot(Tree piece) {
            if (piece.act < 0) {
                return true;
            }
            if (piece.act != act) {
                return false;
            }
            for (int i = 0; i < kids.size(); i++) {
                if (!kids.get(i).matchesAtRoot(piece.kids.get(i))) {
                    return false;
                }
            }
            return true;
        }

        boolean holdsPiece(Tree piece) {
            if (matchesAtRoot(piece)) {
                return true;
            }
            for (Tree kid : kids) {
                if (kid.holdsPiece(piece)) {
                    return true;
                }
            }
            return false;
        }
    }

    static final Comparator<Tree> RISING = (one, other) -> {
        List<List<Integer>> a = one.paths();
        List<List<Integer>> b = other.paths();
        for (int i = 0; i < a.size(); i++) {
            if (!a.get(i).equals(b.get(i))) {
                if (a.get(i).size() != b.get(i).size()) {
                    return Integer.compare(a.get(i).size(), b.get(i).size());
                }
                for (int j = 0; j < a.get(i).size(); j++) {
                    int order = Integer.compare(a.get(i).get(j), b.get(i).get(j));
                    if (order != 0) {
                        return order;
                    }
                }
            }
        }
        return 0;
    };

    static final class Sum {
        final int leaves;
        final TreeMap<Tree, Integer> terms = new TreeMap<>(RISING.reversed());

        Sum(int leaves) {
            this.leaves = leaves;
        }

        Sum plus(Tree tree, int number, int prime) {
            int now = Math.floorMod(terms.getOrDefault(tree, 0) + number, prime);
            if (now == 0) {
                terms.remove(tree);
            } else {
                terms.put(tree, now);
            }
            return this;
        }

        Sum plus(Sum other, int by, int prime) {
            other.terms.forEach((tree, number) -> plus(tree, number * by, prime));
            return this;
        }

        Sum copy() {
            Sum same = new Sum(leaves);
            same.terms.putAll(terms);
            return same;
        }

        Tree tree(int k) {
            return new ArrayList<>(terms.keySet()).get(k);
        }

        int number(int k) {
            return new ArrayList<>(terms.values()).get(k);
        }
    }

    static final class World {
        int prime = 97;
        final List<String> names = new ArrayList<>();
        final List<Integer> entries = new ArrayList<>();
        final List<Sum> laws = new ArrayList<>();
        final Map<Integer, List<Tree>> lists = new HashMap<>();
        final Map<Integer, int[][]> echelons = new HashMap<>();

        long forests(int trees, int n) {
            if (trees == 0) {
                return n == 0 ? 1 : 0;
            }
            long all = 0;
            for (int j = 1; j <= n - trees + 1; j++) {
                all += count(j) * forests(trees - 1, n - j);
            }
            return all;
        }

        final Map<Integer, Long> counts = new HashMap<>();

        long count(int n) {
            if (counts.containsKey(n)) {
                return counts.get(n);
            }
            long all = n == 1 ? 1 : 0;
            for (int e : entries) {
                if (n > 1) {
                    all += forests(e, n);
                }
            }
            counts.put(n, all);
            return all;
        }

        boolean tooMany(int n) {
            return count(n) > 300;
        }

        List<Tree> trees(int n) {
            if (!lists.containsKey(n)) {
                List<Tree> all = new ArrayList<>();
                if (n == 1) {
                    all.add(Tree.LEAF);
                }
                for (int a = 0; a < entries.size(); a++) {
                    for (List<Tree> kids : rows(entries.get(a), n)) {
                        all.add(new Tree(a, kids));
                    }
                }
                all.sort(RISING);
                lists.put(n, all);
            }
            return lists.get(n);
        }

        /** All rows of so many trees with n leaves in all; rows of one tree of n leaves only for fewer leaves. */
        List<List<Tree>> rows(int trees, int n) {
            List<List<Tree>> all = new ArrayList<>();
            if (trees == 0) {
                if (n == 0) {
                    all.add(List.of());
                }
                return all;
            }
            for (int j = 1; j <= n - trees + 1; j++) {
                List<List<Tree>> behind = rows(trees - 1, n - j);
                if (behind.isEmpty()) {
                    continue;
                }
                for (Tree first : trees(j)) {
                    for (List<Tree> row : behind) {
                        List<Tree> longer = new ArrayList<>();
                        longer.add(first);
                        longer.addAll(row);
                        all.add(longer);
                    }
                }
            }
            return all;
        }

        /** echelon[t]: a vector the greatest tree of which is t, with 1, that is like 0; or null. */
        int[][] echelon(int n) {
            if (!echelons.containsKey(n)) {
                List<Tree> all = trees(n);
                Map<Tree, Integer> at = new HashMap<>();
                for (int i = 0; i < all.size(); i++) {
                    at.put(all.get(i), i);
                }
                int[][] rows = new int[all.size()][];
                for (Sum law : laws) {
                    for (int p = 1; p <= n - law.leaves + 1; p++) {
                        for (List<Tree> forest : rows(law.leaves, n - p + 1)) {
                            for (Tree host : trees(p)) {
                                for (int leaf = 0; leaf < p; leaf++) {
                                    int[] vector = new int[all.size()];
                                    for (Map.Entry<Tree, Integer> term : law.terms.entrySet()) {
                                        Tree put = host.put(leaf, term.getKey().filled(new ArrayList<>(forest)));
                                        vector[at.get(put)] += term.getValue();
                                    }
                                    enter(rows, vector);
                                }
                            }
                        }
                    }
                }
                echelons.put(n, rows);
            }
            return echelons.get(n);
        }

        void enter(int[][] rows, int[] vector) {
            for (int t = vector.length - 1; t >= 0; t--) {
                vector[t] = Math.floorMod(vector[t], prime);
                if (vector[t] == 0) {
                    continue;
                }
                if (rows[t] == null) {
                    int inverse = 1;
                    while (inverse * vector[t] % prime != 1) {
                        inverse++;
                    }
                    for (int j = 0; j <= t; j++) {
                        vector[j] = Math.floorMod(vector[j] * inverse, prime);
                    }
                    rows[t] = vector;
                    return;
                }
                int by = vector[t];
                for (int j = 0; j <= t; j++) {
                    vector[j] = Math.floorMod(vector[j] - by * rows[t][j], prime);
                }
            }
        }

        boolean normal(int n, int t) {
            return echelon(n)[t] == null;
        }

        int size(int n) {
            int all = 0;
            for (int[] row : echelon(n)) {
                all += row == null ? 1 : 0;
            }
            return all;
        }

        Sum reduced(Sum sum) {
            List<Tree> all = trees(sum.leaves);
            int[] vector = new int[all.size()];
            for (int i = 0; i < vector.length; i++) {
                vector[i] = sum.terms.getOrDefault(all.get(i), 0);
            }
            int[][] rows = echelon(sum.leaves);
            Sum out = new Sum(sum.leaves);
            for (int t = vector.length - 1; t >= 0; t--) {
                int by = Math.floorMod(vector[t], prime);
                if (rows[t] == null) {
                    out.plus(all.get(t), by, prime);
                } else {
                    for (int j = 0; j <= t; j++) {
                        vector[j] -= by * rows[t][j];
                        vector[j] = Math.floorMod(vector[j], prime);
                    }
                }
            }
            return out;
        }

        boolean bare(Tree tree) {
            for (Sum law : laws) {
                if (!law.terms.isEmpty() && tree.holdsPiece(law.terms.firstKey())) {
                    return false;
                }
            }
            return true;
        }

        boolean hasDual() {
            return entries.stream().allMatch(e -> e == 2) && laws.stream().allMatch(law -> law.leaves == 3);
        }

        /** Over all choices of numbers for free trees, so by solving for the others. */
        World dual() {
            World dual = new World();
            dual.prime = prime;
            dual.names.addAll(names);
            dual.entries.addAll(entries);
            List<Tree> all = trees(3);
            int[][] rows = new int[all.size()][];
            // Rows with the least tree first: turn the columns round and use enter().
            for (Sum law : laws) {
                int[] vector = new int[all.size()];
                for (int i = 0; i < all.size(); i++) {
                    boolean left = all.get(i).kids().get(0).act() >= 0;
                    vector[all.size() - 1 - i] = (left ? 1 : -1) * law.terms.getOrDefault(all.get(i), 0);
                }
                enter(rows, vector);
            }
            for (int free = all.size() - 1; free >= 0; free--) {
                if (rows[all.size() - 1 - free] != null) {
                    continue;
                }
                // w: 1 at this free tree, 0 at others; each pivot (lesser trees last) is solved from the greatest down.
                int[] w = new int[all.size()];
                w[free] = 1;
                for (int i = all.size() - 1; i >= 0; i--) {
                    int[] row = rows[all.size() - 1 - i];
                    if (row != null) {
                        int need = 0;
                        for (int j = i + 1; j < all.size(); j++) {
                            need -= row[all.size() - 1 - j] * w[j];
                        }
                        w[i] = Math.floorMod(need, prime);
                    }
                }
                Sum law = new Sum(3);
                for (int i = 0; i < w.length; i++) {
                    law.plus(all.get(i), w[i], prime);
                }
                dual.laws.add(law);
            }
            return dual;
        }

        long undone(int n) {
            long[] g = new long[n + 1];
            g[1] = 1;
            for (int m = 2; m <= n; m++) {
                for (int k = 1; k < m; k++) {
                    g[m] -= g[k] * parted(k, m);
                }
            }
            return g[n];
        }

        /** All ways to part n into m, sizes of the parts multiplied. */
        long parted(int m, int n) {
            if (m == 0) {
                return n == 0 ? 1 : 0;
            }
            long all = 0;
            for (int j = 1; j <= n; j++) {
                all += size(j) * parted(m - 1, n - j);
            }
            return all;
        }
    }

    static final class Reader {
        final byte[] text;
        final int most;
        int at;
        int start;
        /** One sign, a word, a number; "" at the end, null for no token. */
        String token;

        Reader(byte[] text, int most) {
            this.text = text;
            this.most = most;
            next();
        }

        static boolean small(int b) {
            return b >= 'a' && b <= 'z' || b >= '0' && b <= '9';
        }

        void next() {
            while (at < text.length && at < most && (text[at] == 32 || text[at] == 10)) {
                at++;
            }
            if (at >= Math.min(text.length, most)) {
                start = Math.min(text.length, most);
                token = text.length > most ? null : "";
                return;
            }
            start = at;
            at++;
            if (small(text[start])) {
                while (at < text.length && small(text[at])) {
                    at++;
                }
            }
            token = new String(text, start, at - start, java.nio.charset.StandardCharsets.ISO_8859_1);
            if (!token.matches("[a-z]{1,6}|[0-9]{1,2}|[;(),+=-]")) {
                token = null;
            }
        }

        Fault fault(int kind) {
            return new Fault(kind, start);
        }

        boolean is(String what) {
            return what.equals(token);
        }

        void must(String what) {
            if (!is(what)) {
                throw fault(1);
            }
            next();
        }

        boolean word() {
            return token != null && token.matches("[a-z]+");
        }

        /** A word, none of those that the document tells itself. */
        boolean name() {
            return word() && !List.of("x", "mod", "act", "law").contains(token);
        }

        boolean number() {
            return token != null && token.matches("[0-9]+");
        }

        int leavesSeen;

        Tree tree(World world) {
            if (is("x")) {
                leavesSeen++;
                if (leavesSeen > 7) {
                    throw fault(4);
                }
                next();
                return Tree.LEAF;
            }
            if (!name()) {
                throw fault(1);
            }
            int act = world.names.indexOf(token);
            if (act < 0) {
                throw fault(3);
            }
            next();
            must("(");
            List<Tree> kids = new ArrayList<>();
            for (int i = 0; i < world.entries.get(act); i++) {
                if (i > 0) {
                    must(",");
                }
                kids.add(tree(world));
            }
            must(")");
            return new Tree(act, kids);
        }

        Sum sum(World world, int wanted, boolean law) {
            int sign = 1;
            if (is("-")) {
                sign = -1;
                next();
            }
            Sum sum = null;
            while (true) {
                int number = 1;
                if (number()) {
                    number = Integer.parseInt(token);
                    next();
                }
                int first = start;
                leavesSeen = 0;
                Tree tree = tree(world);
                if (sum == null) {
                    sum = new Sum(wanted > 0 ? wanted : tree.leaves());
                }
                if (tree.leaves() != sum.leaves || law && tree.leaves() == 1) {
                    throw new Fault(3, first);
                }
                sum.plus(tree, sign * number, world.prime);
                if (!is("+") && !is("-")) {
                    return sum;
                }
                sign = is("+") ? 1 : -1;
                next();
            }
        }

        int lines;

        World world() {
            World world = new World();
            boolean told = false;
            while (!is("")) {
                if (is("mod")) {
                    if (told || !world.laws.isEmpty()) {
                        throw fault(3);
                    }
                    next();
                    if (!number()) {
                        throw fault(1);
                    }
                    int p = Integer.parseInt(token);
                    if (!java.math.BigInteger.valueOf(p).isProbablePrime(50) || p > 97) {
                        throw fault(2);
                    }
                    world.prime = p;
                    told = true;
                    next();
                } else if (is("act")) {
                    if (!world.laws.isEmpty()) {
                        throw fault(3);
                    }
                    if (world.names.size() == 3) {
                        throw fault(4);
                    }
                    next();
                    if (!name()) {
                        throw fault(1);
                    }
                    if (world.names.contains(token)) {
                        throw fault(3);
                    }
                    String name = token;
                    next();
                    if (!number()) {
                        throw fault(1);
                    }
                    int n = Integer.parseInt(token);
                    if (n < 2 || n > 4) {
                        throw fault(2);
                    }
                    world.names.add(name);
                    world.entries.add(n);
                    next();
                } else if (is("law")) {
                    if (world.laws.size() == 18) {
                        throw fault(4);
                    }
                    next();
                    world.laws.add(sum(world, 0, true));
                } else {
                    throw fault(1);
                }
                must(";");
                lines++;
            }
            return world;
        }

        Sum whole(World world) {
            Sum sum = sum(world, 0, false);
            if (!is("")) {
                throw fault(1);
            }
            return sum;
        }

        Sum[] map(World world, World there) {
            Sum[] images = new Sum[world.names.size()];
            while (!is("")) {
                if (!name()) {
                    throw fault(1);
                }
                int act = world.names.indexOf(token);
                if (act < 0 || images[act] != null) {
                    throw fault(3);
                }
                next();
                must("=");
                images[act] = sum(there, world.entries.get(act), false);
                must(";");
            }
            for (Sum image : images) {
                if (image == null) {
                    throw fault(3);
                }
            }
            return images;
        }
    }

    record Kept(World world, int ways, int[][] tables, Sum sum) { }

    private byte[] tape = new byte[0];
    private World world = new World();
    private Sum sum = new Sum(1);
    private final List<Sum> past = new ArrayList<>();
    private int fault;
    private int broken = -1;
    private int ways = 1;
    private int[][] tables = new int[3][];
    private final Kept[] kept = new Kept[2];

    NaiveWorlds() {
        space(1);
    }

    int feed(int a, int b, int c, int d, int e) {
        if (tape.length > 920) {
            return -1;
        }
        java.nio.ByteBuffer more = java.nio.ByteBuffer.allocate(tape.length + 20);
        more.put(tape).putInt(a).putInt(b).putInt(c).putInt(d).putInt(e);
        tape = more.array();
        return tape.length;
    }

    boolean end(int n) {
        if (n < 0 || n > tape.length) {
            return false;
        }
        tape = Arrays.copyOf(tape, n);
        return true;
    }

    private byte[] taken() {
        byte[] all = tape;
        tape = new byte[0];
        return all;
    }

    int world() {
        fault = 0;
        Reader reader = new Reader(taken(), 900);
        try {
            world = reader.world();
        } catch (Fault f) {
            fault = f.kind;
            return -1 - f.place;
        }
        sum = new Sum(1);
        past.clear();
        space(1);
        return reader.lines;
    }

    int fault() {
        return fault;
    }

    int act(int a) {
        return a >= 0 && a < world.entries.size() ? world.entries.get(a) : -1;
    }

    private boolean noLaw(int l) {
        return l < 0 || l >= world.laws.size();
    }

    int law(int l, int what) {
        if (noLaw(l) || what < 0 || what > 1) {
            return -1;
        }
        return what == 0 ? world.laws.get(l).leaves : world.laws.get(l).terms.size();
    }

    private int become(Sum now) {
        past.add(sum);
        if (past.size() > 8) {
            past.remove(0);
        }
        sum = now;
        return sum.terms.size();
    }

    int take(int l) {
        return noLaw(l) ? -1 : become(world.laws.get(l).copy());
    }

    long trees(int n) {
        return n < 1 || n > 10 ? -1 : world.count(n);
    }

    int sum() {
        fault = 0;
        try {
            return become(new Reader(taken(), 400).whole(world));
        } catch (Fault f) {
            fault = f.kind;
            return -1 - f.place;
        }
    }

    int leaves() {
        return sum.leaves;
    }

    int term(int k) {
        if (k < 0 || k >= sum.terms.size()) {
            throw new NoSuchElementException();
        }
        return sum.number(k);
    }

    private int byteOf(Tree tree, int i) {
        String text = tree.text(world.names);
        return i < 0 || i >= text.length() ? -1 : text.charAt(i);
    }

    int termAt(int k, int i) {
        return k < 0 || k >= sum.terms.size() ? -1 : byteOf(sum.tree(k), i);
    }

    private boolean off(int n) {
        return n < 1 || n > 7 || world.tooMany(n);
    }

    int reduce() {
        return off(sum.leaves) ? -1 : become(world.reduced(sum));
    }

    int size(int n) {
        return off(n) ? -1 : world.size(n);
    }

    int normalAt(int n, int k, int i) {
        if (off(n) || k < 0) {
            return -1;
        }
        List<Tree> normal = new ArrayList<>();
        for (int t = 0; t < world.trees(n).size(); t++) {
            if (world.normal(n, t)) {
                normal.add(world.trees(n).get(t));
            }
        }
        return k >= normal.size() ? -1 : byteOf(normal.get(k), i);
    }

    int bare(int n) {
        return off(n) ? -1 : (int) world.trees(n).stream().filter(world::bare).count();
    }

    int closed(int n) {
        if (n < 1 || n > 7) {
            return -2;
        }
        for (int m = 1; m <= n && !world.tooMany(m); m++) {
            for (int t = 0; t < world.trees(m).size(); t++) {
                if (world.bare(world.trees(m).get(t)) && !world.normal(m, t)) {
                    return m;
                }
            }
        }
        return -1;
    }

    private static Sum joined(Sum outer, int leaf, Sum inner, int prime) {
        Sum out = new Sum(outer.leaves + inner.leaves - 1);
        outer.terms.forEach((one, by) -> inner.terms.forEach((other, times) ->
            out.plus(one.put(leaf, other), by * times, prime)));
        return out;
    }

    int plug(int i) {
        fault = 0;
        Sum inner;
        try {
            inner = new Reader(taken(), 400).whole(world);
        } catch (Fault f) {
            fault = f.kind;
            return -1 - f.place;
        }
        if (i < 0 || i >= sum.leaves) {
            return -1000;
        }
        if (sum.leaves + inner.leaves > 8 || sum.terms.size() * inner.terms.size() > 1000) {
            return -1001;
        }
        return become(joined(sum, i, inner, world.prime));
    }

    int times(int by) {
        return Math.abs((long) by) > 999 ? -1 : become(new Sum(sum.leaves).plus(sum, by, world.prime));
    }

    int add(int l, int by) {
        if (noLaw(l) || world.laws.get(l).leaves != sum.leaves || Math.abs((long) by) > 999) {
            return -1;
        }
        return become(sum.copy().plus(world.laws.get(l), by, world.prime));
    }

    int undo() {
        if (past.isEmpty()) {
            return -1;
        }
        sum = past.remove(past.size() - 1);
        return sum.terms.size();
    }

    int dual() {
        if (!world.hasDual()) {
            return -1;
        }
        world = world.dual();
        space(1);
        past.clear();
        return world.laws.size();
    }

    long undone(int n) {
        if (off(n)) {
            throw new NoSuchElementException();
        }
        return world.undone(n);
    }

    int koszul(int n) {
        if (n < 1 || n > 7 || !world.hasDual()) {
            return -2;
        }
        World dual = world.dual();
        for (int k = 1; k <= n && !world.tooMany(k); k++) {
            if (world.undone(k) != dual.size(k) * (k % 2 == 0 ? -1 : 1)) {
                return k;
            }
        }
        return -1;
    }

    long layered(int k, int n) {
        if (k < 0 || k > 1 || kept[k] == null || off(n) || kept[k].world.tooMany(n)) {
            return -1;
        }
        long all = 0;
        for (int m = 1; m <= n; m++) {
            all += world.size(m) * kept[k].world.parted(m, n);
        }
        return all;
    }

    private static Sum brought(Tree tree, Sum[] images, int prime) {
        if (tree.act() < 0) {
            return new Sum(1).plus(Tree.LEAF, 1, prime);
        }
        Sum out = images[tree.act()];
        for (int i = tree.kids().size() - 1; i >= 0; i--) {
            out = joined(out, i, brought(tree.kids().get(i), images, prime), prime);
        }
        return out;
    }

    int map(int k) {
        fault = 0;
        byte[] text = taken();
        if (k < 0 || k > 1 || kept[k] == null || kept[k].world.prime != world.prime) {
            return -1000;
        }
        World there = kept[k].world;
        Sum[] images;
        try {
            images = new Reader(text, 400).map(world, there);
        } catch (Fault f) {
            fault = f.kind;
            return -1 - f.place;
        }
        for (Sum law : world.laws) {
            if (there.tooMany(law.leaves)) {
                return -1001;
            }
        }
        int keeps = 0;
        broken = -1;
        for (int l = 0; l < world.laws.size(); l++) {
            Sum all = new Sum(world.laws.get(l).leaves);
            world.laws.get(l).terms.forEach((tree, by) -> all.plus(brought(tree, images, there.prime), by, there.prime));
            if (there.reduced(all).terms.isEmpty()) {
                keeps++;
            } else if (broken < 0) {
                broken = l;
            }
        }
        return keeps;
    }

    int broken() {
        return broken;
    }

    boolean space(int d) {
        if (d < 1 || d > 3) {
            return false;
        }
        ways = d;
        tables = new int[3][243];
        return true;
    }

    boolean table(int a) {
        byte[] bytes = taken();
        if (act(a) < 0 || bytes.length != Math.round(Math.pow(ways, act(a) + 1))) {
            return false;
        }
        tables = tables.clone();
        tables[a] = new int[243];
        for (int i = 0; i < bytes.length; i++) {
            tables[a][i] = (bytes[i] & 255) % world.prime;
        }
        return true;
    }

    /** What a tree does to ways, taken from the front of the list. */
    private int[] does(Tree tree, List<Integer> in) {
        int[] out = new int[ways];
        if (tree.act() < 0) {
            out[in.remove(0)] = 1;
            return out;
        }
        int m = tree.kids().size();
        int[][] vectors = new int[m][];
        for (int i = 0; i < m; i++) {
            vectors[i] = does(tree.kids().get(i), in);
        }
        int rows = (int) Math.round(Math.pow(ways, m));
        for (int row = 0; row < rows; row++) {
            int product = 1;
            int left = row;
            for (int i = m - 1; i >= 0; i--) {
                product = product * vectors[i][left % ways] % world.prime;
                left /= ways;
            }
            for (int o = 0; o < ways; o++) {
                out[o] = (out[o] + product * tables[tree.act()][row * ways + o]) % world.prime;
            }
        }
        return out;
    }

    private int[] does(Sum all, List<Integer> in) {
        int[] out = new int[ways];
        all.terms.forEach((tree, by) -> {
            int[] one = does(tree, new ArrayList<>(in));
            for (int o = 0; o < ways; o++) {
                out[o] = (out[o] + by * one[o]) % world.prime;
            }
        });
        return out;
    }

    int holds(int l) {
        if (noLaw(l)) {
            return -1;
        }
        Sum law = world.laws.get(l);
        int rows = (int) Math.round(Math.pow(ways, law.leaves));
        for (int row = 0; row < rows; row++) {
            List<Integer> in = new ArrayList<>();
            for (int i = 0, left = row; i < law.leaves; i++, left /= ways) {
                in.add(left % ways);
            }
            for (int number : does(law, in)) {
                if (number != 0) {
                    return 0;
                }
            }
        }
        return 1;
    }

    int done(int i) {
        byte[] bytes = taken();
        if (bytes.length != sum.leaves || i < 0 || i >= ways) {
            return -1;
        }
        List<Integer> in = new ArrayList<>();
        for (byte b : bytes) {
            if ((b & 255) >= ways) {
                return -1;
            }
            in.add((int) b);
        }
        return does(sum, in)[i];
    }

    int drawn(int n, int seed) {
        if (off(n) || world.count(n) == 0) {
            return -1;
        }
        int s = seed * 1103515245 + 12345;
        return become(new Sum(n).plus(world.trees(n).get((s >>> 8) % (int) world.count(n)), 1, world.prime));
    }

    boolean image(int k) {
        if (k < 0 || k > 1) {
            return false;
        }
        kept[k] = new Kept(world, ways, tables, sum);
        return true;
    }

    boolean restore(int k) {
        if (k < 0 || k > 1 || kept[k] == null) {
            return false;
        }
        world = kept[k].world;
        ways = kept[k].ways;
        tables = kept[k].tables;
        sum = kept[k].sum;
        past.clear();
        return true;
    }

    int count(int what) {
        int[] all = {world.prime, world.names.size(), world.laws.size(), sum.terms.size(), ways, tape.length};
        return what < 0 || what > 5 ? -1 : all[what];
    }
}
