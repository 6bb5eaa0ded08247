import java.util.ArrayDeque;
import java.util.ArrayList;
import java.util.Deque;
import java.util.HashMap;
import java.util.LinkedHashSet;
import java.util.List;
import java.util.Map;
import java.util.Set;
import java.util.TreeSet;

/**
 * The document's words once more, as slow and as near to them as can be: worlds are told apart by
 * tables of pairs, sentences are trees that are asked at one world at a time. The class is held
 * against it, run for run.
 */
final class PlainTown {
    /** Made anew for each question, so what it remembers is of one scene alone. */
    private static final class Tree {
        int sign;
        Tree a;
        Tree b;
        List<Tree> claims;
        final Map<Set<Integer>, Map<Integer, Boolean>> remembered = new HashMap<>();
    }

    /** Worlds, cells, claims, groups. */
    private static final class Scene {
        int n;
        int m;
        int real;
        List<Integer> facts = new ArrayList<>();
        List<boolean[][]> same = new ArrayList<>();
        List<List<Integer>> claims = new ArrayList<>();
        int[] groups = new int[3];

        Scene twin() {
            Scene t = new Scene();
            t.n = n;
            t.m = m;
            t.real = real;
            t.facts.addAll(facts);
            for (boolean[][] table : same) {
                boolean[][] other = new boolean[table.length][];
                for (int i = 0; i < table.length; i++) {
                    other[i] = table[i].clone();
                }
                t.same.add(other);
            }
            for (List<Integer> claim : claims) {
                t.claims.add(new ArrayList<>(claim));
            }
            t.groups = groups.clone();
            return t;
        }

        Set<Integer> every() {
            Set<Integer> set = new TreeSet<>();
            for (int w = 0; w < facts.size(); w++) {
                set.add(w);
            }
            return set;
        }
    }

    private static final class State {
        Scene scene = new Scene();
        int[] streets = new int[4];
        List<List<Integer>> sentences = new ArrayList<>();
        List<Set<Integer>> oaths = new ArrayList<>();
        List<List<Integer>> pacts = new ArrayList<>();
        List<Integer> pactGroups = new ArrayList<>();
        List<Scene> marks = new ArrayList<>();

        State twin() {
            State t = new State();
            t.scene = scene.twin();
            t.streets = streets.clone();
            for (List<Integer> s : sentences) {
                t.sentences.add(new ArrayList<>(s));
            }
            for (Set<Integer> o : oaths) {
                t.oaths.add(new TreeSet<>(o));
            }
            t.pacts.addAll(pacts);
            t.pactGroups.addAll(pactGroups);
            for (Scene mark : marks) {
                t.marks.add(mark.twin());
            }
            return t;
        }
    }

    private State now = new State();
    private final Deque<State> kept = new ArrayDeque<>();
    private final int[][] sheets = new int[4][];
    private final int[] sheetBits = new int[4];
    private int findings = 0;

    PlainTown() {
        for (int s = 0; s < 6; s++) {
            now.sentences.add(new ArrayList<>());
        }
        anew(2, 2, 0);
    }

    private void anew(int n, int m, int real) {
        Scene scene = new Scene();
        scene.n = n;
        scene.m = m;
        scene.real = real;
        scene.groups = now.scene.groups;
        for (int w = 0; w < 1 << m; w++) {
            scene.facts.add(w);
        }
        for (int p = 0; p < n; p++) {
            boolean[][] table = new boolean[1 << m][1 << m];
            for (boolean[] row : table) {
                java.util.Arrays.fill(row, true);
            }
            scene.same.add(table);
        }
        now.scene = scene;
        now.streets = new int[4];
        now.oaths = new ArrayList<>();
        for (int p = 0; p < 4; p++) {
            now.oaths.add(new TreeSet<>());
        }
        now.pacts = new ArrayList<>();
        now.pactGroups = new ArrayList<>();
        now.marks = new ArrayList<>();
    }

    private int no(int finding) {
        findings++;
        return finding;
    }

    private void keep() {
        kept.addLast(now.twin());
        if (kept.size() > 12) {
            kept.removeFirst();
        }
    }

    private boolean person(int p) {
        return p >= 0 && p < now.scene.n;
    }

    private boolean fact(int f) {
        return f >= 0 && f < now.scene.m;
    }

    private static boolean sentence(int s) {
        return s >= 0 && s < 6;
    }

    private static boolean isSign(int v) {
        return (v >= 0 && v <= 3) || (v >= 10 && v <= 14) || (v >= 20 && v <= 40);
    }

    private static int takes(int v) {
        if (v <= 3) {
            return 0;
        }
        return v == 10 || v >= 20 ? 1 : 2;
    }

    int begin(int n, int m, int real) {
        if (n < 1 || n > 4 || m < 1 || m > 4 || real < 0 || real >= 1 << m) {
            return no(Due.BEYOND);
        }
        keep();
        anew(n, m, real);
        return 1 << m;
    }

    int go(int p, int street) {
        if (!person(p) || street < 0 || street > 3) {
            return no(Due.BEYOND);
        }
        keep();
        int was = now.streets[p];
        now.streets[p] = street;
        return was;
    }

    int group(int g, int set) {
        if (g < 0 || g > 2 || set < 0 || set > 15) {
            return no(Due.BEYOND);
        }
        keep();
        int was = now.scene.groups[g];
        now.scene.groups = now.scene.groups.clone();
        now.scene.groups[g] = set;
        return was;
    }

    int sign(int s, int v) {
        if (!sentence(s) || !isSign(v)) {
            return no(Due.BEYOND);
        }
        if (now.sentences.get(s).size() == 14) {
            return no(Due.FULL);
        }
        keep();
        now.sentences.get(s).add(v);
        return now.sentences.get(s).size();
    }

    int blank(int s) {
        if (!sentence(s)) {
            return no(Due.BEYOND);
        }
        keep();
        int had = now.sentences.get(s).size();
        now.sentences.get(s).clear();
        return had;
    }

    int write(int s, int sheet) {
        if (!sentence(s) || sheet < 0 || sheet > 3) {
            return no(Due.BEYOND);
        }
        if (sheets[sheet] == null) {
            return no(Due.MISSING);
        }
        for (int v : sheets[sheet]) {
            if (!isSign(v)) {
                return no(Due.BEYOND);
            }
        }
        keep();
        now.sentences.get(s).clear();
        for (int v : sheets[sheet]) {
            now.sentences.get(s).add(v);
        }
        return sheets[sheet].length;
    }

    int as(int s, int i, int kind) {
        if (!sentence(s) || i < 0 || i >= now.sentences.get(s).size() || kind < 0 || kind > 3) {
            return no(Due.BEYOND);
        }
        int v = now.sentences.get(s).get(i);
        boolean one = v == 10 || v >= 20;
        boolean two = v >= 11 && v <= 14;
        boolean ofGroup = v >= 32;
        if ((kind == 1 && !one) || (kind == 2 && !two) || (kind == 3 && !ofGroup)) {
            return no(Due.KIND);
        }
        return v;
    }

    int wrong(int s) {
        return sentence(s) ? fault(s) : no(Due.BEYOND);
    }

    private int fault(int s) {
        List<Integer> row = now.sentences.get(s);
        int stand = 0;
        for (int i = 0; i < row.size(); i++) {
            int v = row.get(i);
            if (v <= 3 && v >= now.scene.m) {
                return i;
            }
            if (v >= 20 && v <= 31 && (v - 20) % 4 >= now.scene.n) {
                return i;
            }
            if (takes(v) > stand) {
                return i;
            }
            stand = stand - takes(v) + 1;
        }
        return stand == 1 ? -1 : row.size();
    }

    private static Tree tree(List<Integer> row) {
        Deque<Tree> stack = new ArrayDeque<>();
        for (int v : row) {
            Tree t = new Tree();
            t.sign = v;
            if (takes(v) == 2) {
                t.b = stack.pop();
                t.a = stack.pop();
            } else if (takes(v) == 1) {
                t.a = stack.pop();
            }
            stack.push(t);
        }
        return stack.pop();
    }

    private static Set<Integer> cell(Scene scene, int p, int w, Set<Integer> set) {
        Set<Integer> cell = new TreeSet<>();
        for (int v : set) {
            if (scene.same.get(p)[w][v]) {
                cell.add(v);
            }
        }
        return cell;
    }

    private static boolean allSo(Scene scene, Tree t, Set<Integer> at, Set<Integer> set) {
        for (int v : at) {
            if (!so(scene, t, v, set)) {
                return false;
            }
        }
        return true;
    }

    private static List<Integer> members(Scene scene, int g) {
        List<Integer> list = new ArrayList<>();
        for (int p = 0; p < scene.n; p++) {
            if ((scene.groups[g] >> p & 1) == 1) {
                list.add(p);
            }
        }
        return list;
    }

    private static Set<Integer> where(Scene scene, Tree t, Set<Integer> set) {
        Set<Integer> result = new TreeSet<>();
        for (int w : set) {
            if (so(scene, t, w, set)) {
                result.add(w);
            }
        }
        return result;
    }

    private static Set<Integer> comeTo(Scene scene, List<Integer> persons, int w, Set<Integer> set) {
        Set<Integer> near = new LinkedHashSet<>();
        Deque<Integer> open = new ArrayDeque<>();
        near.add(w);
        open.add(w);
        while (!open.isEmpty()) {
            int v = open.poll();
            for (int p : persons) {
                for (int u : cell(scene, p, v, set)) {
                    if (near.add(u)) {
                        open.add(u);
                    }
                }
            }
        }
        return near;
    }

    private static List<Tree> claimTrees(Scene scene) {
        List<Tree> trees = new ArrayList<>();
        for (List<Integer> claim : scene.claims) {
            trees.add(tree(claim));
        }
        return trees;
    }

    /** until: the claims from this one on are gone through, the latest first. */
    private static Set<Integer> remain(Scene scene, List<Tree> claims, Set<Integer> cell, Set<Integer> set, int until) {
        Set<Integer> rest = cell;
        for (int c = claims.size() - 1; c >= until; c--) {
            Set<Integer> those = new TreeSet<>(rest);
            those.retainAll(where(scene, claims.get(c), set));
            if (!those.isEmpty()) {
                rest = those;
            }
        }
        return rest;
    }

    private static boolean so(Scene scene, Tree t, int w, Set<Integer> set) {
        Map<Integer, Boolean> known = t.remembered.get(set);
        if (known == null) {
            known = new HashMap<>();
            t.remembered.put(set, known);
        }
        Boolean answer = known.get(w);
        if (answer == null) {
            answer = asked(scene, t, w, set);
            known.put(w, answer);
        }
        return answer;
    }

    private static boolean asked(Scene scene, Tree t, int w, Set<Integer> set) {
        int v = t.sign;
        if (v <= 3) {
            return (scene.facts.get(w) >> v & 1) == 1;
        }
        if (v == 10) {
            return !so(scene, t.a, w, set);
        }
        if (v == 11) {
            return so(scene, t.a, w, set) && so(scene, t.b, w, set);
        }
        if (v == 12) {
            return so(scene, t.a, w, set) || so(scene, t.b, w, set);
        }
        if (v == 13) {
            return !so(scene, t.a, w, set) || so(scene, t.b, w, set);
        }
        if (v == 14) {
            return !so(scene, t.a, w, set) || so(scene, t.b, w, where(scene, t.a, set));
        }
        if (v <= 23) {
            return allSo(scene, t.a, cell(scene, v - 20, w, set), set);
        }
        if (v <= 27) {
            for (int u : cell(scene, v - 24, w, set)) {
                if (so(scene, t.a, u, set)) {
                    return true;
                }
            }
            return false;
        }
        if (v <= 31) {
            t.claims = t.claims == null ? claimTrees(scene) : t.claims;
            return allSo(scene, t.a, remain(scene, t.claims, cell(scene, v - 28, w, set), set, 0), set);
        }
        List<Integer> group = members(scene, (v - 32) % 3);
        if (v <= 34) {
            for (int p : group) {
                if (!allSo(scene, t.a, cell(scene, p, w, set), set)) {
                    return false;
                }
            }
            return true;
        }
        if (v <= 37) {
            return allSo(scene, t.a, comeTo(scene, group, w, set), set);
        }
        Set<Integer> together = new TreeSet<>(set);
        for (int p : group) {
            together.retainAll(cell(scene, p, w, set));
        }
        return allSo(scene, t.a, together, set);
    }

    private static boolean knows(Scene scene, int p, Tree t, int w) {
        return allSo(scene, t, cell(scene, p, w, scene.every()), scene.every());
    }

    private static boolean knowsNot(Scene scene, int p, Tree t, int w) {
        for (int v : cell(scene, p, w, scene.every())) {
            if (so(scene, t, v, scene.every())) {
                return false;
            }
        }
        return true;
    }

    private static Scene only(Scene scene, List<Integer> stay) {
        Scene next = scene.twin();
        next.facts = new ArrayList<>();
        next.real = stay.indexOf(scene.real);
        for (int w : stay) {
            next.facts.add(scene.facts.get(w));
        }
        for (int p = 0; p < scene.n; p++) {
            boolean[][] table = new boolean[stay.size()][stay.size()];
            for (int i = 0; i < stay.size(); i++) {
                for (int j = 0; j < stay.size(); j++) {
                    table[i][j] = scene.same.get(p)[stay.get(i)][stay.get(j)];
                }
            }
            next.same.set(p, table);
        }
        return next;
    }

    private static boolean matched(Scene scene, boolean[][] alike, int p, int i, int j) {
        for (int u : cell(scene, p, i, scene.every())) {
            boolean some = false;
            for (int v : cell(scene, p, j, scene.every())) {
                some |= alike[u][v];
            }
            if (!some) {
                return false;
            }
        }
        return true;
    }

    private static boolean[][] alike(Scene scene) {
        int size = scene.facts.size();
        boolean[][] alike = new boolean[size][size];
        for (int i = 0; i < size; i++) {
            for (int j = 0; j < size; j++) {
                alike[i][j] = scene.facts.get(i).equals(scene.facts.get(j));
            }
        }
        boolean changed = true;
        while (changed) {
            changed = false;
            for (int i = 0; i < size; i++) {
                for (int j = 0; j < size; j++) {
                    for (int p = 0; p < scene.n && alike[i][j]; p++) {
                        if (!matched(scene, alike, p, i, j) || !matched(scene, alike, p, j, i)) {
                            alike[i][j] = false;
                            changed = true;
                        }
                    }
                }
            }
        }
        return alike;
    }

    private static Scene cut(Scene whole) {
        List<Integer> persons = new ArrayList<>();
        for (int p = 0; p < whole.n; p++) {
            persons.add(p);
        }
        Scene scene = only(whole, new ArrayList<>(new TreeSet<>(comeTo(whole, persons, whole.real, whole.every()))));
        boolean[][] alike = alike(scene);
        int size = scene.facts.size();
        int[] least = new int[size];
        List<Integer> stay = new ArrayList<>();
        for (int i = 0; i < size; i++) {
            int j = 0;
            while (!alike[i][j]) {
                j++;
            }
            least[i] = j;
            if (j == i) {
                stay.add(i);
            }
        }
        for (int p = 0; p < scene.n; p++) {
            boolean[][] table = scene.same.get(p);
            boolean[][] next = new boolean[size][size];
            for (int i = 0; i < size; i++) {
                for (int j = 0; j < size; j++) {
                    next[least[i]][least[j]] |= table[i][j];
                }
            }
            scene.same.set(p, next);
        }
        scene.real = least[scene.real];
        return only(scene, stay);
    }

    int see(int p, int f) {
        if (!person(p) || !fact(f)) {
            return no(Due.BEYOND);
        }
        keep();
        Scene next = now.scene.twin();
        part(next, p, f);
        now.scene = cut(next);
        return now.scene.facts.size();
    }

    private static void part(Scene scene, int p, int f) {
        for (int i = 0; i < scene.facts.size(); i++) {
            for (int j = 0; j < scene.facts.size(); j++) {
                if ((scene.facts.get(i) >> f & 1) != (scene.facts.get(j) >> f & 1)) {
                    scene.same.get(p)[i][j] = false;
                }
            }
        }
    }

    private boolean sworn(int p, int s) {
        for (int v : now.sentences.get(s)) {
            if (now.oaths.get(p).contains(v)) {
                return true;
            }
        }
        return false;
    }

    private Scene telling(int a, int b, int s) {
        Scene scene = now.scene;
        Tree t = tree(now.sentences.get(s));
        List<Integer> from = new ArrayList<>();
        List<Boolean> told = new ArrayList<>();
        Scene next = scene.twin();
        next.facts = new ArrayList<>();
        for (int w = 0; w < scene.facts.size(); w++) {
            from.add(w);
            told.add(false);
            next.facts.add(scene.facts.get(w));
            if (knows(scene, a, t, w) || knowsNot(scene, a, t, w)) {
                from.add(w);
                told.add(true);
                next.facts.add(scene.facts.get(w));
                if (w == scene.real) {
                    next.real = from.size() - 1;
                }
            }
        }
        int size = from.size();
        for (int p = 0; p < scene.n; p++) {
            boolean[][] table = new boolean[size][size];
            for (int i = 0; i < size; i++) {
                for (int j = 0; j < size; j++) {
                    boolean one = scene.same.get(p)[from.get(i)][from.get(j)];
                    boolean sameTold = told.get(i).equals(told.get(j));
                    boolean what = !told.get(i) || !told.get(j)
                        || so(scene, t, from.get(i), scene.every()) == so(scene, t, from.get(j), scene.every());
                    if (p == a || p == b) {
                        one = one && sameTold && what;
                    } else if (now.streets[p] == now.streets[a]) {
                        one = one && sameTold;
                    }
                    table[i][j] = one;
                }
            }
            next.same.set(p, table);
        }
        return next;
    }

    int tell(int a, int b, int s) {
        if (!person(a) || !person(b) || !sentence(s)) {
            return no(Due.BEYOND);
        }
        if (a == b) {
            return no(Due.SIZE);
        }
        if (fault(s) != -1) {
            return no(Due.KIND);
        }
        if (now.streets[a] != now.streets[b]) {
            return no(Due.APART);
        }
        if (sworn(a, s)) {
            return no(Due.SWORN);
        }
        Tree t = tree(now.sentences.get(s));
        if (!knows(now.scene, a, t, now.scene.real) && !knowsNot(now.scene, a, t, now.scene.real)) {
            return no(Due.UNTRUE);
        }
        Scene next = cut(telling(a, b, s));
        if (next.facts.size() > 64) {
            return no(Due.FULL);
        }
        keep();
        now.scene = next;
        return next.facts.size();
    }

    int openly(int a, int b, int s) {
        if (!person(a) || !person(b) || !sentence(s)) {
            return no(Due.BEYOND);
        }
        if (a == b) {
            return no(Due.SIZE);
        }
        if (fault(s) != -1) {
            return no(Due.KIND);
        }
        if (sworn(a, s)) {
            return no(Due.SWORN);
        }
        Tree t = tree(now.sentences.get(s));
        if (!knows(now.scene, a, t, now.scene.real) && !knowsNot(now.scene, a, t, now.scene.real)) {
            return no(Due.UNTRUE);
        }
        keep();
        now.scene = cut(told(now.scene, a, b, t));
        return now.scene.facts.size();
    }

    private static Scene told(Scene scene, int a, int b, Tree t) {
        Set<Integer> where = where(scene, t, scene.every());
        Scene next = scene.twin();
        List<Integer> stay = new ArrayList<>();
        for (int w = 0; w < scene.facts.size(); w++) {
            if (knows(scene, a, t, w) || knowsNot(scene, a, t, w)) {
                stay.add(w);
            }
            for (int v = 0; v < scene.facts.size(); v++) {
                if (where.contains(w) != where.contains(v)) {
                    next.same.get(b)[w][v] = false;
                }
            }
        }
        return only(next, stay);
    }

    int cry(int p, int s) {
        if (!person(p) || !sentence(s)) {
            return no(Due.BEYOND);
        }
        if (fault(s) != -1) {
            return no(Due.KIND);
        }
        if (sworn(p, s)) {
            return no(Due.SWORN);
        }
        Tree t = tree(now.sentences.get(s));
        if (!knows(now.scene, p, t, now.scene.real)) {
            return no(Due.UNTRUE);
        }
        keep();
        List<Integer> stay = new ArrayList<>();
        for (int w = 0; w < now.scene.facts.size(); w++) {
            if (knows(now.scene, p, t, w)) {
                stay.add(w);
            }
        }
        now.scene = cut(only(now.scene, stay));
        return now.scene.facts.size();
    }

    int lie(int p, int s) {
        if (!person(p) || !sentence(s)) {
            return no(Due.BEYOND);
        }
        if (fault(s) != -1) {
            return no(Due.KIND);
        }
        for (int v : now.sentences.get(s)) {
            if (v >= 28 && v <= 31) {
                return no(Due.KIND);
            }
        }
        if (sworn(p, s)) {
            return no(Due.SWORN);
        }
        if (knows(now.scene, p, tree(now.sentences.get(s)), now.scene.real)) {
            return no(Due.UNTRUE);
        }
        if (now.scene.claims.size() == 5) {
            return no(Due.FULL);
        }
        keep();
        now.scene.claims.add(new ArrayList<>(now.sentences.get(s)));
        return now.scene.claims.size() - 1;
    }

    int clashed(int claim, int p) {
        if (claim < 0 || claim >= now.scene.claims.size() || !person(p)) {
            return no(Due.BEYOND);
        }
        Scene scene = now.scene;
        List<Tree> claims = claimTrees(scene);
        Set<Integer> cell = cell(scene, p, scene.real, scene.every());
        for (int w : remain(scene, claims, cell, scene.every(), claim + 1)) {
            if (so(scene, claims.get(claim), w, scene.every())) {
                return 0;
            }
        }
        return 1;
    }

    int swear(int p, int f) {
        if (!person(p) || !fact(f)) {
            return no(Due.BEYOND);
        }
        if (now.oaths.get(p).contains(f)) {
            return no(Due.KIND);
        }
        keep();
        now.oaths.get(p).add(f);
        return now.oaths.get(p).size();
    }

    int pact(int s, int g) {
        if (!sentence(s) || g < 0 || g > 2) {
            return no(Due.BEYOND);
        }
        if (fault(s) != -1) {
            return no(Due.KIND);
        }
        if (now.pacts.size() == 4) {
            return no(Due.FULL);
        }
        keep();
        now.pacts.add(new ArrayList<>(now.sentences.get(s)));
        now.pactGroups.add(g);
        return now.pacts.size() - 1;
    }

    int binding() {
        int bits = 0;
        for (int i = 0; i < now.pacts.size(); i++) {
            Tree t = new Tree();
            t.sign = 35 + now.pactGroups.get(i);
            t.a = tree(now.pacts.get(i));
            if (so(now.scene, t, now.scene.real, now.scene.every())) {
                bits += 1 << i;
            }
        }
        return bits;
    }

    private boolean at(Scene scene, int s) {
        return so(scene, tree(now.sentences.get(s)), scene.real, scene.every());
    }

    int holds(int s) {
        if (!sentence(s)) {
            return no(Due.BEYOND);
        }
        if (fault(s) != -1) {
            return no(Due.KIND);
        }
        return at(now.scene, s) ? 1 : 0;
    }

    int many(int s) {
        if (!sentence(s)) {
            return no(Due.BEYOND);
        }
        if (fault(s) != -1) {
            return no(Due.KIND);
        }
        return where(now.scene, tree(now.sentences.get(s)), now.scene.every()).size();
    }

    int fails(int s) {
        if (!sentence(s)) {
            return no(Due.BEYOND);
        }
        if (fault(s) != -1) {
            return no(Due.KIND);
        }
        for (int w = 0; w < now.scene.facts.size(); w++) {
            if (!so(now.scene, tree(now.sentences.get(s)), w, now.scene.every())) {
                return w;
            }
        }
        return no(Due.NONE);
    }

    int like(int s, int t) {
        if (!sentence(s) || !sentence(t)) {
            return no(Due.BEYOND);
        }
        if (fault(s) != -1 || fault(t) != -1) {
            return no(Due.KIND);
        }
        Set<Integer> every = now.scene.every();
        return where(now.scene, tree(now.sentences.get(s)), every)
            .equals(where(now.scene, tree(now.sentences.get(t)), every)) ? 1 : 0;
    }

    int world(int w, int p) {
        if (w < 0 || w >= now.scene.facts.size() || (p != -1 && !person(p))) {
            return no(Due.BEYOND);
        }
        return p == -1 ? now.scene.facts.get(w) : cell(now.scene, p, w, now.scene.every()).iterator().next();
    }

    int known(int p, boolean whether) {
        if (!person(p)) {
            return no(Due.BEYOND);
        }
        int bits = 0;
        for (int f = 0; f < now.scene.m; f++) {
            Tree t = new Tree();
            t.sign = f;
            if (knows(now.scene, p, t, now.scene.real) || (whether && knowsNot(now.scene, p, t, now.scene.real))) {
                bits += 1 << f;
            }
        }
        return bits;
    }

    private Scene taught(Scene scene, int lesson) {
        int pupil = lesson / 4;
        Tree t = new Tree();
        t.sign = lesson % 4;
        if (pupil >= scene.n || t.sign >= scene.m) {
            return null;
        }
        for (int a = 0; a < scene.n; a++) {
            if (a != pupil && now.streets[a] == now.streets[pupil]
                && (knows(scene, a, t, scene.real) || knowsNot(scene, a, t, scene.real))) {
                return told(scene, a, pupil, t);
            }
        }
        return null;
    }

    private List<Integer> row(int s) {
        if (at(now.scene, s)) {
            return new ArrayList<>();
        }
        for (int i = 0; i < 16; i++) {
            Scene one = taught(now.scene, i);
            if (one != null && at(one, s)) {
                return List.of(i);
            }
        }
        for (int i = 0; i < 16; i++) {
            Scene one = taught(now.scene, i);
            for (int j = 0; j < 16 && one != null; j++) {
                Scene two = taught(one, j);
                if (two != null && at(two, s)) {
                    return List.of(i, j);
                }
            }
        }
        return null;
    }

    int lessons(int s) {
        if (!sentence(s)) {
            return no(Due.BEYOND);
        }
        if (fault(s) != -1) {
            return no(Due.KIND);
        }
        List<Integer> row = row(s);
        return row == null ? no(Due.NONE) : row.size();
    }

    int lesson(int s, int i) {
        if (!sentence(s) || i < 0) {
            return no(Due.BEYOND);
        }
        if (fault(s) != -1) {
            return no(Due.KIND);
        }
        List<Integer> row = row(s);
        return row == null || i >= row.size() ? no(Due.NONE) : row.get(i);
    }

    int mark() {
        if (now.marks.size() == 6) {
            return no(Due.FULL);
        }
        keep();
        now.marks.add(now.scene.twin());
        return now.marks.size() - 1;
    }

    int then(int mark, int s) {
        if (mark < 0 || mark >= now.marks.size() || !sentence(s)) {
            return no(Due.BEYOND);
        }
        if (fault(s) != -1) {
            return no(Due.KIND);
        }
        return at(now.marks.get(mark), s) ? 1 : 0;
    }

    int since(int s) {
        if (!sentence(s)) {
            return no(Due.BEYOND);
        }
        if (fault(s) != -1) {
            return no(Due.KIND);
        }
        for (int mark = 0; mark < now.marks.size(); mark++) {
            if (at(now.marks.get(mark), s)) {
                return mark;
            }
        }
        return no(Due.NONE);
    }

    int sheet(int s, int bits, int n) {
        if (s < 0 || s > 3 || !List.of(0, 8, 16, 32).contains(bits)) {
            return no(Due.BEYOND);
        }
        if (n < 0) {
            return no(Due.SIZE);
        }
        if (n > 14) {
            return no(Due.BEYOND);
        }
        sheets[s] = bits == 0 ? null : new int[n];
        sheetBits[s] = bits;
        return bits == 0 ? 0 : n;
    }

    int put(int s, int i, int v) {
        if (s < 0 || s > 3) {
            return no(Due.BEYOND);
        }
        if (sheets[s] == null) {
            return no(Due.MISSING);
        }
        if (i < 0 || i >= sheets[s].length) {
            return no(Due.BEYOND);
        }
        sheets[s][i] = sheetBits[s] == 8 ? (byte) v : sheetBits[s] == 16 ? (short) v : v;
        return 0;
    }

    int copy(int s, int from, int t, int to, int n) {
        if (s < 0 || s > 3 || t < 0 || t > 3) {
            return no(Due.BEYOND);
        }
        if (sheets[s] == null || sheets[t] == null) {
            return no(Due.MISSING);
        }
        if (sheetBits[s] != sheetBits[t]) {
            return no(Due.KIND);
        }
        if (from < 0 || to < 0 || n < 0 || (long) from + n > sheets[s].length || (long) to + n > sheets[t].length) {
            return no(Due.BEYOND);
        }
        int[] was = sheets[s].clone();
        for (int i = 0; i < n; i++) {
            sheets[t][to + i] = was[from + i];
        }
        return n;
    }

    int undo() {
        if (kept.isEmpty()) {
            return no(Due.NONE);
        }
        now = kept.removeLast();
        return kept.size();
    }

    int all(int what) {
        switch (what) {
            case 0:
                return now.scene.n;
            case 1:
                return now.scene.m;
            case 2:
                return now.scene.facts.size();
            case 3:
                return now.scene.real;
            case 4:
                return now.scene.claims.size();
            case 5:
                return now.pacts.size();
            case 6:
                return now.marks.size();
            case 7:
                return findings;
            default:
                return no(Due.BEYOND);
        }
    }
}
