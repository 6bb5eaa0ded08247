import java.util.ArrayList;
import java.util.List;

/**
 * Towns that were made by the same calls: one is asked something, the other is not, and then both are
 * looked at from all sides. So a refused call is seen to change nothing but how many findings there were.
 * No town of these is asked more than 512 times.
 */
final class Twin {
    interface Steps {
        void on(TownKnows town);
    }

    interface Call {
        int on(TownKnows town);
    }

    private static final int UNDOS = 13;

    private final Steps ahead;
    private final List<Integer> plain;

    Twin(Steps ahead) {
        this.ahead = ahead;
        this.plain = looks(town -> { });
    }

    /** The call answers the finding; it is counted, and else nothing changes. */
    void refuses(String call, int finding, Call asked) {
        stays(call, finding, asked, 1);
    }

    /** The call answers what is due, no finding, and nothing changes. */
    void tells(String call, int want, Call asked) {
        stays(call, want, asked, 0);
    }

    private void stays(String call, int want, Call asked, int more) {
        TownKnows town = made(t -> { });
        int findings = town.all(7);
        Due.is(call, asked.on(town), want);
        Due.is("findings behind " + call, town.all(7), findings + more);
        same("behind " + call, looks(asked::on));
    }

    private void same(String what, List<Integer> seen) {
        boolean same = seen.equals(plain);
        int at = 0;
        while (!same && at < Math.min(seen.size(), plain.size()) && seen.get(at).equals(plain.get(at))) {
            at++;
        }
        Due.is(what + ", a look that changed (its place)", same ? -1 : at, -1);
    }

    private TownKnows made(Steps more) {
        TownKnows town = new TownKnows();
        ahead.on(town);
        more.on(town);
        return town;
    }

    private List<Integer> looks(Steps more) {
        List<Integer> seen = new ArrayList<>();
        acts(made(more), seen);
        for (int s = 0; s < 4; s++) {
            sheet(made(more), s, seen);
        }
        for (int undos = 0; undos <= UNDOS; undos++) {
            TownKnows town = made(more);
            int left = 0;
            for (int i = 0; i < undos; i++) {
                left = town.undo();
            }
            seen.add(left);
            questions(town, seen);
        }
        return seen;
    }

    /** What can be asked without an act. */
    static void questions(TownKnows town, List<Integer> seen) {
        for (int what = 0; what <= 6; what++) {
            seen.add(town.all(what));
        }
        int persons = town.all(0);
        int worlds = town.all(2);
        int marks = town.all(6);
        for (int w = 0; w < worlds; w++) {
            for (int p = -1; p < persons; p++) {
                seen.add(town.world(w, p));
            }
        }
        for (int s = 0; s < 6; s++) {
            seen.add(town.wrong(s));
            for (int i = 0; i < 14 && town.as(s, i, 0) >= 0; i++) {
                seen.add(town.as(s, i, 0));
            }
            seen.add(town.many(s));
            seen.add(town.fails(s));
            seen.add(town.lesson(s, 0));
            for (int mark = 0; mark < marks; mark++) {
                seen.add(town.then(mark, s));
            }
        }
        seen.add(town.binding());
        for (int claim = 0; claim < town.all(4); claim++) {
            for (int p = 0; p < persons; p++) {
                seen.add(town.clashed(claim, p));
            }
        }
    }

    /** What only acts tell: streets, oaths, groups, whose group a pact has. */
    private static void acts(TownKnows town, List<Integer> seen) {
        for (int p = 0; p < town.all(0); p++) {
            seen.add(town.go(p, 3));
            for (int f = 0; f < town.all(1); f++) {
                seen.add(town.swear(p, f));
            }
        }
        for (int g = 0; g < 3; g++) {
            seen.add(town.group(g, 0));
            seen.add(town.binding());
        }
        for (int s = 0; s < 6; s++) {
            seen.add(town.blank(s));
        }
        seen.add(town.binding());
        seen.add(town.mark());
    }

    /** How many numbers of how many bits a sheet has, and which, so far as they are signs. */
    private static void sheet(TownKnows town, int s, List<Integer> seen) {
        int other = (s + 1) % 4;
        for (int bits = 8; bits <= 32; bits *= 2) {
            town.sheet(other, bits, 1);
            for (int i = 0; i < 15; i++) {
                seen.add(town.copy(s, i, other, 0, 1));
                seen.add(town.write(0, other));
                seen.add(town.as(0, 0, 0));
            }
        }
    }
}
