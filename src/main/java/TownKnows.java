import java.util.Arrays;

/** A town of news: who holds what possible, who knows that who knows, and what was known then. */
public final class TownKnows {
    private static final int BEYOND = -100001;
    private static final int MISSING = -100002;
    private static final int SIZE = -100003;
    private static final int KIND = -100004;
    private static final int FULL = -100005;
    private static final int NONE = -100006;
    private static final int APART = -100007;
    private static final int SWORN = -100008;
    private static final int UNTRUE = -100009;

    private static final int MOST_PERSONS = 4;
    private static final int MOST_FACTS = 4;
    private static final int MOST_WORLDS = 64;
    private static final int STREETS = 4;
    private static final int GROUPS = 3;
    private static final int SENTENCES = 6;
    private static final int MOST_SIGNS = 14;
    private static final int MOST_CLAIMS = 5;
    private static final int MOST_PACTS = 4;
    private static final int MOST_MARKS = 6;
    private static final int SHEETS = 4;
    private static final int MOST_NUMBERS = 14;
    private static final int MOST_KEPT = 12;

    private Town now;
    private final Town[] kept;
    private int keptCount;
    private int keptNext;
    private int findings;
    private final Sheet[] sheets;
    private final Sight sight;
    private final Draft draft;
    private final School school;

    public TownKnows() {
        now = Town.first();
        kept = new Town[MOST_KEPT];
        // no place is ever null, so undo need not ask
        for (int i = 0; i < MOST_KEPT; i++) {
            kept[i] = now;
        }
        keptCount = 0;
        keptNext = 0;
        findings = 0;
        sheets = new Sheet[SHEETS];
        for (int s = 0; s < SHEETS; s++) {
            sheets[s] = new Sheet();
        }
        sight = new Sight();
        draft = new Draft();
        school = new School();
    }

    // ---- the town

    public int begin(int n, int m, int real) {
        if (!within(n, 1, MOST_PERSONS) || !within(m, 1, MOST_FACTS)) {
            return finding(BEYOND);
        }
        if (!within(real, 0, (1 << m) - 1)) {
            return finding(BEYOND);
        }
        become(now.begun(Worlds.ofAllSets(n, m, real)));
        return worlds().count;
    }

    public int go(int person, int street) {
        if (!isPerson(person) || !within(street, 0, STREETS - 1)) {
            return finding(BEYOND);
        }
        int was = now.streets[person];
        become(now.withStreet(person, street));
        return was;
    }

    public int group(int g, int set) {
        if (!isGroup(g) || !within(set, 0, (1 << MOST_PERSONS) - 1)) {
            return finding(BEYOND);
        }
        int was = now.picture.groups[g];
        become(now.withPicture(now.picture.withGroup(g, set)));
        return was;
    }

    // ---- sentences

    public int sign(int s, int v) {
        if (!isSentence(s) || !Signs.isSign(v)) {
            return finding(BEYOND);
        }
        if (now.sentences[s].count >= MOST_SIGNS) {
            return finding(FULL);
        }
        become(now.withSentence(s, now.sentences[s].longer(v)));
        return now.sentences[s].count;
    }

    public int blank(int s) {
        if (!isSentence(s)) {
            return finding(BEYOND);
        }
        int had = now.sentences[s].count;
        become(now.withSentence(s, new Row(new int[0])));
        return had;
    }

    public int write(int s, int sheet) {
        if (!isSentence(s) || !isSheet(sheet)) {
            return finding(BEYOND);
        }
        Sheet from = sheets[sheet];
        if (from.isMissing()) {
            return finding(MISSING);
        }
        for (int i = 0; i < from.count; i++) {
            if (!Signs.isSign(from.numbers[i])) {
                return finding(BEYOND);
            }
        }
        become(now.withSentence(s, new Row(Arrays.copyOf(from.numbers, from.count))));
        return from.count;
    }

    public int as(int s, int i, int kind) {
        if (!isSentence(s) || !within(i, 0, now.sentences[s].count - 1) || !within(kind, 0, 3)) {
            return finding(BEYOND);
        }
        int sign = now.sentences[s].signs[i];
        if (!Signs.isOfKind(sign, kind)) {
            return finding(KIND);
        }
        return sign;
    }

    public int wrong(int s) {
        if (!isSentence(s)) {
            return finding(BEYOND);
        }
        return now.sentences[s].fault(worlds().persons, worlds().facts);
    }

    // ---- acts of persons

    public int see(int person, int fact) {
        if (!isPerson(person) || !isFact(fact)) {
            return finding(BEYOND);
        }
        return cutTo(worlds().every(), person, worlds().so[fact]);
    }

    public int tell(int a, int b, int s) {
        int hindrance = meeting(a, b, s);
        if (hindrance != 0) {
            return finding(hindrance);
        }
        if (now.streets[a] != now.streets[b]) {
            return finding(APART);
        }
        Row row = now.sentences[s];
        if (now.hasSwornOn(a, row)) {
            return finding(SWORN);
        }
        long so = soAt(row);
        long sure = sight.knowsWhether(a, so, worlds().every());
        if (!worlds().hasReal(sure)) {
            return finding(UNTRUE);
        }
        draft.layTelling(worlds(), (1 << a) | (1 << b), now.personsIn(now.streets[a]), so, sure);
        if (draft.cut() > MOST_WORLDS) {
            return finding(FULL);
        }
        return becomeDraft();
    }

    public int openly(int a, int b, int s) {
        int hindrance = meeting(a, b, s);
        if (hindrance != 0) {
            return finding(hindrance);
        }
        Row row = now.sentences[s];
        if (now.hasSwornOn(a, row)) {
            return finding(SWORN);
        }
        long so = soAt(row);
        long sure = sight.knowsWhether(a, so, worlds().every());
        if (!worlds().hasReal(sure)) {
            return finding(UNTRUE);
        }
        return cutTo(sure, b, so);
    }

    public int cry(int person, int s) {
        int hindrance = saying(person, s);
        if (hindrance != 0) {
            return finding(hindrance);
        }
        if (now.hasSwornOn(person, now.sentences[s])) {
            return finding(SWORN);
        }
        long so = soAt(now.sentences[s]);
        long sure = sight.knows(person, so, worlds().every());
        if (!worlds().hasReal(sure)) {
            return finding(UNTRUE);
        }
        return cutTo(sure, person, sure);
    }

    public int lie(int person, int s) {
        int hindrance = saying(person, s);
        if (hindrance != 0) {
            return finding(hindrance);
        }
        Row row = now.sentences[s];
        if (row.hasBelief()) {
            return finding(KIND);
        }
        if (now.hasSwornOn(person, row)) {
            return finding(SWORN);
        }
        long so = soAt(row);
        if (worlds().hasReal(sight.knows(person, so, worlds().every()))) {
            return finding(UNTRUE);
        }
        int claims = now.picture.claims.length;
        if (claims >= MOST_CLAIMS) {
            return finding(FULL);
        }
        become(now.withPicture(now.picture.withClaim(row)));
        return claims;
    }

    public int clashed(int claim, int person) {
        if (!within(claim, 0, now.picture.claims.length - 1) || !isPerson(person)) {
            return finding(BEYOND);
        }
        sight.look(now.picture);
        return sight.hasClashed(claim, person) ? 1 : 0;
    }

    public int swear(int person, int fact) {
        if (!isPerson(person) || !isFact(fact)) {
            return finding(BEYOND);
        }
        if (isIn(fact, now.oaths[person])) {
            return finding(KIND);
        }
        become(now.withOath(person, fact));
        return Integer.bitCount(now.oaths[person]);
    }

    public int pact(int s, int g) {
        if (!isSentence(s) || !isGroup(g)) {
            return finding(BEYOND);
        }
        if (!isRight(s)) {
            return finding(KIND);
        }
        int pacts = now.pacts.length;
        if (pacts >= MOST_PACTS) {
            return finding(FULL);
        }
        become(now.withPact(new Pact(now.sentences[s], g)));
        return pacts;
    }

    public int binding() {
        int bits = 0;
        sight.look(now.picture);
        for (int i = 0; i < now.pacts.length; i++) {
            Pact pact = now.pacts[i];
            long so = sight.soIn(pact.row, worlds().every());
            if (worlds().hasReal(sight.common(pact.group, so, worlds().every()))) {
                bits |= 1 << i;
            }
        }
        return bits;
    }

    // ---- what is so

    public int holds(int s) {
        int hindrance = asking(s);
        if (hindrance != 0) {
            return finding(hindrance);
        }
        return worlds().hasReal(soAt(now.sentences[s])) ? 1 : 0;
    }

    public int many(int s) {
        int hindrance = asking(s);
        if (hindrance != 0) {
            return finding(hindrance);
        }
        return Long.bitCount(soAt(now.sentences[s]));
    }

    public int fails(int s) {
        int hindrance = asking(s);
        if (hindrance != 0) {
            return finding(hindrance);
        }
        long not = worlds().every() & ~soAt(now.sentences[s]);
        return not == 0 ? finding(NONE) : least(not);
    }

    public int like(int s, int t) {
        if (!isSentence(s) || !isSentence(t)) {
            return finding(BEYOND);
        }
        if (!isRight(s) || !isRight(t)) {
            return finding(KIND);
        }
        return soAt(now.sentences[s]) == soAt(now.sentences[t]) ? 1 : 0;
    }

    public int world(int w, int person) {
        if (!within(w, 0, worlds().count - 1) || (person != -1 && !isPerson(person))) {
            return finding(BEYOND);
        }
        return person == -1 ? worlds().factsOf(w) : least(worlds().cell(person, w));
    }

    public int known(int person, boolean whether) {
        if (!isPerson(person)) {
            return finding(BEYOND);
        }
        long cell = worlds().cell(person, worlds().real);
        int bits = 0;
        for (int fact = 0; fact < worlds().facts; fact++) {
            long so = worlds().so[fact];
            if ((cell & ~so) == 0 || (whether && (cell & so) == 0)) {
                bits |= 1 << fact;
            }
        }
        return bits;
    }

    // ---- lessons, marks

    public int lessons(int s) {
        int hindrance = asking(s);
        if (hindrance != 0) {
            return finding(hindrance);
        }
        int length = school.shortest(now.sentences[s], now);
        return length < 0 ? finding(NONE) : length;
    }

    public int lesson(int s, int i) {
        if (!isSentence(s) || i < 0) {
            return finding(BEYOND);
        }
        if (!isRight(s)) {
            return finding(KIND);
        }
        if (i >= school.shortest(now.sentences[s], now)) {
            return finding(NONE);
        }
        return i == 0 ? school.first : school.second;
    }

    public int mark() {
        int marks = now.marks.length;
        if (marks >= MOST_MARKS) {
            return finding(FULL);
        }
        become(now.withMark());
        return marks;
    }

    public int then(int mark, int s) {
        if (!within(mark, 0, now.marks.length - 1) || !isSentence(s)) {
            return finding(BEYOND);
        }
        if (!isRight(s)) {
            return finding(KIND);
        }
        return wasSo(now.marks[mark], now.sentences[s]) ? 1 : 0;
    }

    public int since(int s) {
        int hindrance = asking(s);
        if (hindrance != 0) {
            return finding(hindrance);
        }
        for (int mark = 0; mark < now.marks.length; mark++) {
            if (wasSo(now.marks[mark], now.sentences[s])) {
                return mark;
            }
        }
        return finding(NONE);
    }

    // ---- sheets, the whole

    public int sheet(int s, int bits, int n) {
        if (!isSheet(s) || (bits != 0 && bits != 8 && bits != 16 && bits != 32)) {
            return finding(BEYOND);
        }
        if (n < 0) {
            return finding(SIZE);
        }
        if (n > MOST_NUMBERS) {
            return finding(BEYOND);
        }
        sheets[s].lay(bits, n);
        return sheets[s].count;
    }

    public int put(int s, int i, int v) {
        if (!isSheet(s)) {
            return finding(BEYOND);
        }
        if (sheets[s].isMissing()) {
            return finding(MISSING);
        }
        if (!within(i, 0, sheets[s].count - 1)) {
            return finding(BEYOND);
        }
        sheets[s].set(i, v);
        return 0;
    }

    public int copy(int s, int from, int t, int to, int n) {
        if (!isSheet(s) || !isSheet(t)) {
            return finding(BEYOND);
        }
        if (sheets[s].isMissing() || sheets[t].isMissing()) {
            return finding(MISSING);
        }
        if (sheets[s].bits != sheets[t].bits) {
            return finding(KIND);
        }
        if (!sheets[s].hasPart(from, n) || !sheets[t].hasPart(to, n)) {
            return finding(BEYOND);
        }
        System.arraycopy(sheets[s].numbers, from, sheets[t].numbers, to, n);
        return n;
    }

    public int undo() {
        if (keptCount == 0) {
            return finding(NONE);
        }
        keptNext = (keptNext + MOST_KEPT - 1) % MOST_KEPT;
        keptCount--;
        now = kept[keptNext];
        return keptCount;
    }

    public int all(int what) {
        switch (what) {
            case 0:
                return worlds().persons;
            case 1:
                return worlds().facts;
            case 2:
                return worlds().count;
            case 3:
                return worlds().real;
            case 4:
                return now.picture.claims.length;
            case 5:
                return now.pacts.length;
            case 6:
                return now.marks.length;
            case 7:
                return findings;
            default:
                return finding(BEYOND);
        }
    }

    // ---- what the calls share

    private int finding(int which) {
        findings++;
        return which;
    }

    /** The town as it was is kept, even if the act changed nothing in it: undo counts acts. */
    private void become(Town next) {
        kept[keptNext] = now;
        keptNext = (keptNext + 1) % MOST_KEPT;
        keptCount = Math.min(keptCount + 1, MOST_KEPT);
        now = next;
    }

    private int becomeDraft() {
        become(now.withPicture(now.picture.withWorlds(draft.made())));
        return worlds().count;
    }

    /** Worlds outside of stay go, a person's cells are parted by a set; fewer worlds are never too many. */
    private int cutTo(long stay, int person, long side) {
        draft.layParting(worlds(), stay, person, side);
        draft.cut();
        return becomeDraft();
    }

    private Worlds worlds() {
        return now.picture.worlds;
    }

    private long soAt(Row row) {
        sight.look(now.picture);
        return sight.soIn(row, worlds().every());
    }

    private boolean wasSo(Picture picture, Row row) {
        sight.look(picture);
        return picture.worlds.hasReal(sight.soIn(row, picture.worlds.every()));
    }

    private boolean isRight(int s) {
        return now.sentences[s].fault(worlds().persons, worlds().facts) == -1;
    }

    /** The first finding of one who tells another one, or 0. */
    private int meeting(int a, int b, int s) {
        if (!isPerson(a) || !isPerson(b) || !isSentence(s)) {
            return BEYOND;
        }
        if (a == b) {
            return SIZE;
        }
        return isRight(s) ? 0 : KIND;
    }

    private int saying(int person, int s) {
        return isPerson(person) ? asking(s) : BEYOND;
    }

    private int asking(int s) {
        if (!isSentence(s)) {
            return BEYOND;
        }
        return isRight(s) ? 0 : KIND;
    }

    private boolean isPerson(int person) {
        return within(person, 0, worlds().persons - 1);
    }

    private boolean isFact(int fact) {
        return within(fact, 0, worlds().facts - 1);
    }

    private static boolean isSentence(int s) {
        return within(s, 0, SENTENCES - 1);
    }

    private static boolean isGroup(int g) {
        return within(g, 0, GROUPS - 1);
    }

    private static boolean isSheet(int s) {
        return within(s, 0, SHEETS - 1);
    }

    private static boolean within(int v, int low, int high) {
        return v >= low && v <= high;
    }

    private static boolean isIn(int i, long set) {
        return (set >>> i & 1L) != 0;
    }

    /** The least of a set; 64 if it is empty. */
    private static int least(long set) {
        return Long.bitCount((set & -set) - 1);
    }

    /** What the numbers of signs mean. */
    private static final class Signs {
        static final int NOT = 10;
        static final int AND = 11;
        static final int OR = 12;
        static final int IF = 13;
        static final int ONCE = 14;
        static final int KNOWS = 20;
        static final int THINKS = 24;
        static final int BELIEVES = 28;
        static final int EACH = 32;
        static final int COMMON = 35;
        static final int TOGETHER = 38;
        static final int LAST = 40;

        private Signs() {
        }

        static boolean isSign(int v) {
            return isFactSign(v) || within(v, NOT, ONCE) || within(v, KNOWS, LAST);
        }

        static boolean isFactSign(int v) {
            return within(v, 0, MOST_FACTS - 1);
        }

        static boolean isOfKind(int sign, int kind) {
            switch (kind) {
                case 0:
                    return true;
                case 1:
                    return takes(sign) == 1;
                case 2:
                    return takes(sign) == 2;
                default:
                    return sign >= EACH;
            }
        }

        static int takes(int sign) {
            if (sign < NOT) {
                return 0;
            }
            return sign > NOT && sign < KNOWS ? 2 : 1;
        }

        static int personOf(int sign) {
            return (sign - KNOWS) % MOST_PERSONS;
        }

        static int groupOf(int sign) {
            return (sign - EACH) % GROUPS;
        }
    }

    /** The signs of a sentence; never changed once made, so claims, pacts and kept towns may share it. */
    private static final class Row {
        final int[] signs;
        final int count;

        Row(int[] signs) {
            this.signs = signs;
            this.count = signs.length;
        }

        Row longer(int v) {
            int[] next = Arrays.copyOf(signs, count + 1);
            next[count] = v;
            return new Row(next);
        }

        /** -1 if it is right; else the place at which it goes wrong. */
        int fault(int persons, int facts) {
            int stand = 0;
            for (int i = 0; i < count; i++) {
                int takes = Signs.takes(signs[i]);
                if (takes > stand || tellsOfMissing(signs[i], persons, facts)) {
                    return i;
                }
                stand += 1 - takes;
            }
            return stand == 1 ? -1 : count;
        }

        private static boolean tellsOfMissing(int sign, int persons, int facts) {
            if (sign < Signs.NOT) {
                return sign >= facts;
            }
            return sign >= Signs.KNOWS && sign < Signs.EACH && Signs.personOf(sign) >= persons;
        }

        /** Where the sentence that stands behind the sign at a place begins. */
        int startOf(int end) {
            int due = 1;
            for (int i = end; i >= 0; i--) {
                due += Signs.takes(signs[i]) - 1;
                if (due == 0) {
                    return i;
                }
            }
            return 0;
        }

        int factsTold() {
            int bits = 0;
            for (int i = 0; i < count; i++) {
                if (Signs.isFactSign(signs[i])) {
                    bits |= 1 << signs[i];
                }
            }
            return bits;
        }

        boolean hasBelief() {
            for (int i = 0; i < count; i++) {
                if (within(signs[i], Signs.BELIEVES, Signs.EACH - 1)) {
                    return true;
                }
            }
            return false;
        }
    }

    /** Worlds and cells, sets of worlds being bits; never changed once made. */
    private static final class Worlds {
        final int persons;
        final int facts;
        final int count;
        final int real;
        final long[] so;
        final long[] cells;

        /** so: of each fact its worlds; cells: of each person, of each world, its cell. */
        Worlds(int persons, int count, int real, long[] so, long[] cells) {
            this.persons = persons;
            this.facts = so.length;
            this.count = count;
            this.real = real;
            this.so = so;
            this.cells = cells;
        }

        static Worlds ofAllSets(int persons, int facts, int real) {
            int count = 1 << facts;
            long[] so = new long[facts];
            for (int fact = 0; fact < facts; fact++) {
                for (int w = 0; w < count; w++) {
                    if (isIn(fact, w)) {
                        so[fact] |= 1L << w;
                    }
                }
            }
            long[] cells = new long[persons * count];
            Arrays.fill(cells, (1L << count) - 1);
            return new Worlds(persons, count, real, so, cells);
        }

        long every() {
            return -1L >>> (MOST_WORLDS - count);
        }

        long cell(int person, int w) {
            return cells[person * count + w];
        }

        boolean hasReal(long set) {
            return isIn(real, set);
        }

        int factsOf(int w) {
            int bits = 0;
            for (int fact = 0; fact < facts; fact++) {
                if (isIn(w, so[fact])) {
                    bits |= 1 << fact;
                }
            }
            return bits;
        }
    }

    /** All that a sentence's being so hangs on, and so what a mark keeps; never changed once made. */
    private static final class Picture {
        final Worlds worlds;
        final Row[] claims;
        final int[] groups;

        Picture(Worlds worlds, Row[] claims, int[] groups) {
            this.worlds = worlds;
            this.claims = claims;
            this.groups = groups;
        }

        Picture withWorlds(Worlds next) {
            return new Picture(next, claims, groups);
        }

        Picture withGroup(int g, int set) {
            int[] next = groups.clone();
            next[g] = set;
            return new Picture(worlds, claims, next);
        }

        Picture withClaim(Row row) {
            Row[] next = new Row[claims.length + 1];
            for (int i = 0; i < claims.length; i++) {
                next[i] = claims[i];
            }
            next[claims.length] = row;
            return new Picture(worlds, next, groups);
        }
    }

    private static final class Pact {
        final Row row;
        final int group;

        Pact(Row row, int group) {
            this.row = row;
            this.group = group;
        }
    }

    /** All that undo brings back; never changed once made, so that keeping one costs nothing. */
    private static final class Town {
        final Picture picture;
        final int[] streets;
        final int[] oaths;
        final Row[] sentences;
        final Pact[] pacts;
        final Picture[] marks;

        Town(Picture picture, int[] streets, int[] oaths, Row[] sentences, Pact[] pacts, Picture[] marks) {
            this.picture = picture;
            this.streets = streets;
            this.oaths = oaths;
            this.sentences = sentences;
            this.pacts = pacts;
            this.marks = marks;
        }

        static Town first() {
            Row[] sentences = new Row[SENTENCES];
            Row empty = new Row(new int[0]);
            for (int s = 0; s < SENTENCES; s++) {
                sentences[s] = empty;
            }
            return anew(Worlds.ofAllSets(2, 2, 0), new int[GROUPS], sentences);
        }

        Town begun(Worlds worlds) {
            return anew(worlds, picture.groups, sentences);
        }

        private static Town anew(Worlds worlds, int[] groups, Row[] sentences) {
            Picture picture = new Picture(worlds, new Row[0], groups);
            return new Town(picture, new int[MOST_PERSONS], new int[MOST_PERSONS], sentences, new Pact[0],
                    new Picture[0]);
        }

        Town withPicture(Picture next) {
            return new Town(next, streets, oaths, sentences, pacts, marks);
        }

        Town withStreet(int person, int street) {
            int[] next = streets.clone();
            next[person] = street;
            return new Town(picture, next, oaths, sentences, pacts, marks);
        }

        Town withOath(int person, int fact) {
            int[] next = oaths.clone();
            next[person] |= 1 << fact;
            return new Town(picture, streets, next, sentences, pacts, marks);
        }

        Town withSentence(int s, Row row) {
            Row[] next = new Row[SENTENCES];
            for (int i = 0; i < SENTENCES; i++) {
                next[i] = i == s ? row : sentences[i];
            }
            return new Town(picture, streets, oaths, next, pacts, marks);
        }

        Town withPact(Pact pact) {
            Pact[] next = new Pact[pacts.length + 1];
            for (int i = 0; i < pacts.length; i++) {
                next[i] = pacts[i];
            }
            next[pacts.length] = pact;
            return new Town(picture, streets, oaths, sentences, next, marks);
        }

        Town withMark() {
            Picture[] next = new Picture[marks.length + 1];
            for (int i = 0; i < marks.length; i++) {
                next[i] = marks[i];
            }
            next[marks.length] = picture;
            return new Town(picture, streets, oaths, sentences, pacts, next);
        }

        boolean hasSwornOn(int person, Row row) {
            return (oaths[person] & row.factsTold()) != 0;
        }

        int personsIn(int street) {
            int bits = 0;
            for (int person = 0; person < picture.worlds.persons; person++) {
                if (streets[person] == street) {
                    bits |= 1 << person;
                }
            }
            return bits;
        }
    }

    /** Works out at which worlds of a set a sentence is so, in the picture that it looks at. */
    private static final class Sight {
        private static final int DEEPEST = 2 * MOST_SIGNS;

        private Worlds worlds;
        private Row[] claims;
        private int[] groups;
        private final int[] taught = new int[MOST_PERSONS];
        private final long[] claimed = new long[MOST_CLAIMS];
        private long heardIn;

        void look(Picture picture) {
            worlds = picture.worlds;
            claims = picture.claims;
            groups = picture.groups;
            forgetLessons();
        }

        void forgetLessons() {
            Arrays.fill(taught, 0);
        }

        /** Parts the cells of a person by a fact until lessons are forgotten; nothing is copied for it. */
        void partBy(int person, int fact) {
            taught[person] |= 1 << fact;
        }

        long soIn(Row row, long set) {
            heardIn = 0;
            return standing(row, row.count - 1, set, 0);
        }

        long knows(int person, long part, long set) {
            return set & ~touched(1 << person, set & ~part);
        }

        long knowsWhether(int person, long part, long set) {
            return set & ~(touched(1 << person, part) & touched(1 << person, set & ~part));
        }

        long common(int g, long part, long set) {
            return ofGroup(Signs.COMMON + g, part, set);
        }

        boolean hasClashed(int claim, int person) {
            heardIn = 0;
            hearClaims(worlds.every(), 0);
            return (remaining(worlds.cell(person, worlds.real), claim + 1) & claimed[claim]) == 0;
        }

        /** Each step goes to an earlier place, and claims, having no BELIEVES, come to no claims. */
        private long standing(Row row, int end, long set, int depth) {
            if (end < 0 || set == 0 || depth > DEEPEST) {
                return 0;
            }
            int sign = row.signs[end];
            int takes = Signs.takes(sign);
            if (takes == 0) {
                return worlds.so[sign] & set;
            }
            if (takes == 2) {
                return ofTwo(row, end, set, depth);
            }
            long part = standing(row, end - 1, set, depth + 1);
            if (sign == Signs.NOT) {
                return set & ~part;
            }
            if (sign >= Signs.EACH) {
                return ofGroup(sign, part, set);
            }
            return ofPerson(sign, part, set, depth);
        }

        private long ofTwo(Row row, int end, long set, int depth) {
            long a = standing(row, row.startOf(end - 1) - 1, set, depth + 1);
            long scope = row.signs[end] == Signs.ONCE ? a : set;
            long b = standing(row, end - 1, scope, depth + 1);
            switch (row.signs[end]) {
                case Signs.AND:
                    return a & b;
                case Signs.OR:
                    return a | b;
                default:
                    return (set & ~a) | b;
            }
        }

        private long ofPerson(int sign, long part, long set, int depth) {
            int person = Signs.personOf(sign);
            if (sign < Signs.THINKS) {
                return set & ~touched(1 << person, set & ~part);
            }
            if (sign < Signs.BELIEVES) {
                return set & touched(1 << person, part);
            }
            hearClaims(set, depth);
            return believes(person, part, set);
        }

        /** Members that are not there count for nothing: only persons that are there are gone through. */
        private long ofGroup(int sign, long part, long set) {
            int members = groups[Signs.groupOf(sign)];
            long not = set & ~part;
            if (sign >= Signs.TOGETHER) {
                return set & ~shared(members, not);
            }
            if (sign < Signs.COMMON) {
                return set & ~touched(members, not);
            }
            long near = not;
            long fresh = not;
            for (int round = 0; round < MOST_WORLDS && fresh != 0; round++) {
                fresh = touched(members, fresh) & set & ~near;
                near |= fresh;
            }
            return set & ~near;
        }

        private long believes(int person, long part, long set) {
            long result = 0;
            long left = set;
            for (int i = 0; i < MOST_WORLDS && left != 0; i++) {
                long cell = cellOf(person, least(left)) & set;
                if ((remaining(cell, 0) & ~part) == 0) {
                    result |= cell;
                }
                left &= ~cell;
            }
            return result;
        }

        /** The worlds that are, for some member, in one cell with one of part. */
        private long touched(int members, long part) {
            long near = 0;
            for (int person = 0; person < worlds.persons; person++) {
                long left = isIn(person, members) ? part : 0;
                for (int i = 0; i < MOST_WORLDS && left != 0; i++) {
                    long cell = cellOf(person, least(left));
                    near |= cell;
                    left &= ~cell;
                }
            }
            return near;
        }

        /** The worlds that are, for all members at once, in one cell with one of part. */
        private long shared(int members, long part) {
            long near = 0;
            long left = part;
            for (int i = 0; i < MOST_WORLDS && left != 0; i++) {
                long cell = worlds.every();
                for (int person = 0; person < worlds.persons; person++) {
                    cell &= isIn(person, members) ? cellOf(person, least(left)) : cell;
                }
                near |= cell;
                left &= ~cell;
            }
            return near;
        }

        /** Claims are worked out once for a set, not once for each belief in it. */
        private void hearClaims(long set, int depth) {
            if (heardIn == set) {
                return;
            }
            for (int c = 0; c < claims.length; c++) {
                claimed[c] = standing(claims[c], claims[c].count - 1, set, depth + 1);
            }
            heardIn = set;
        }

        /** What is left of a cell when claims are gone through, from the latest to the one at until. */
        private long remaining(long cell, int until) {
            long rest = cell;
            for (int c = claims.length - 1; c >= until; c--) {
                if ((rest & claimed[c]) != 0) {
                    rest &= claimed[c];
                }
            }
            return rest;
        }

        private long cellOf(int person, int w) {
            long cell = worlds.cells[person * worlds.count + w];
            int partings = taught[person];
            for (int fact = 0; fact < worlds.facts && partings != 0; fact++) {
                if ((partings >>> fact & 1) != 0) {
                    long so = worlds.so[fact];
                    cell &= (so >>> w & 1L) != 0 ? so : ~so;
                }
            }
            return cell;
        }
    }

    /** Looks for the fewest lessons behind which a sentence is so. */
    private static final class School {
        private static final int LESSONS = MOST_PERSONS * MOST_FACTS;

        private final Sight sight = new Sight();
        private Town town;
        private Worlds worlds;
        int first;
        int second;

        /** How many lessons (0 to 2), told then by first and second; -1 if there are none such. */
        int shortest(Row goal, Town at) {
            town = at;
            worlds = at.picture.worlds;
            sight.look(at.picture);
            if (worlds.hasReal(sight.soIn(goal, worlds.every()))) {
                return 0;
            }
            for (int one = 0; one < LESSONS; one++) {
                if (worlds.hasReal(sight.soIn(goal, taughtFirst(one)))) {
                    first = one;
                    return 1;
                }
            }
            for (int one = 0; one < LESSONS; one++) {
                long once = taughtFirst(one);
                for (int two = 0; two < LESSONS && once != 0; two++) {
                    sight.forgetLessons();
                    sight.partBy(pupilOf(one), factOf(one));
                    if (worlds.hasReal(sight.soIn(goal, taughtSet(two, once)))) {
                        first = one;
                        second = two;
                        return 2;
                    }
                }
            }
            return -1;
        }

        private static int pupilOf(int lesson) {
            return lesson / MOST_FACTS;
        }

        private static int factOf(int lesson) {
            return lesson % MOST_FACTS;
        }

        private long taughtFirst(int lesson) {
            sight.forgetLessons();
            return taughtSet(lesson, worlds.every());
        }

        /** The worlds that stay behind a lesson; none if it can't be given. */
        private long taughtSet(int lesson, long set) {
            int pupil = pupilOf(lesson);
            int fact = factOf(lesson);
            if (set == 0 || pupil >= worlds.persons || fact >= worlds.facts) {
                return 0;
            }
            for (int teller = 0; teller < worlds.persons; teller++) {
                if (teller != pupil && town.streets[teller] == town.streets[pupil]) {
                    long sure = sight.knowsWhether(teller, worlds.so[fact] & set, set);
                    if (worlds.hasReal(sure)) {
                        sight.partBy(pupil, fact);
                        return sure;
                    }
                }
            }
            return 0;
        }
    }

    /** Where worlds to come are laid out (telling may double them) and CUT before they become the town's. */
    private static final class Draft {
        private static final int MOST = 2 * MOST_WORLDS;
        private static final int LABELS = 4 * MOST_WORLDS;

        private int persons;
        private int factCount;
        private int count;
        private int real;
        private int stay;
        private final int[] facts = new int[MOST];
        private final int[] labels = new int[MOST_PERSONS * MOST];
        private final int[] kin = new int[MOST];
        private final int[] place = new int[MOST];
        private final int[] reached = new int[MOST];
        private final long[] low = new long[LABELS];
        private final long[] high = new long[LABELS];

        void layParting(Worlds from, long keep, int person, long side) {
            layNone(from);
            for (int w = 0; w < from.count; w++) {
                if (isIn(w, keep)) {
                    add(from, w);
                    labels[person * MOST + count - 1] += isIn(w, side) ? 1 : 0;
                    real = w == from.real ? count - 1 : real;
                }
            }
        }

        /** pair: who tells and who is told; mates: all of their street, these two too. */
        void layTelling(Worlds from, int pair, int mates, long so, long sure) {
            layNone(from);
            for (int w = 0; w < from.count; w++) {
                add(from, w);
                if (isIn(w, sure)) {
                    add(from, w);
                    labelTold(pair, mates, isIn(w, so) ? 1 : 0);
                    real = w == from.real ? count - 1 : real;
                }
            }
        }

        private void labelTold(int pair, int mates, int what) {
            for (int person = 0; person < persons; person++) {
                int more = isIn(person, mates) ? 2 : 0;
                more += isIn(person, pair) ? what : 0;
                labels[person * MOST + count - 1] += more;
            }
        }

        private void layNone(Worlds from) {
            persons = from.persons;
            factCount = from.facts;
            count = 0;
            real = 0;
        }

        /** Labels are four apart, so that an act can part the worlds of a cell by adding 1 to 3. */
        private void add(Worlds from, int w) {
            facts[count] = from.factsOf(w);
            for (int person = 0; person < persons; person++) {
                labels[person * MOST + count] = 4 * least(from.cell(person, w));
            }
            count++;
        }

        /** CUT: how many worlds stay. */
        int cut() {
            reach();
            dropUnreached();
            findKin();
            stay = 0;
            for (int w = 0; w < count; w++) {
                place[w] = stay;
                stay += kin[w] == w ? 1 : 0;
            }
            return stay;
        }

        private void reach() {
            for (int w = 0; w < count; w++) {
                reached[w] = w == real ? 1 : 0;
            }
            boolean grew = true;
            for (int round = 0; round < count && grew; round++) {
                grew = false;
                for (int person = 0; person < persons; person++) {
                    grew = spread(person) || grew;
                }
            }
        }

        private boolean spread(int person) {
            Arrays.fill(low, 0);
            for (int w = 0; w < count; w++) {
                low[label(person, w)] |= reached[w];
            }
            boolean grew = false;
            for (int w = 0; w < count; w++) {
                if (reached[w] == 0 && low[label(person, w)] != 0) {
                    reached[w] = 1;
                    grew = true;
                }
            }
            return grew;
        }

        private void dropUnreached() {
            int next = 0;
            int nextReal = 0;
            for (int w = 0; w < count; w++) {
                if (reached[w] != 0) {
                    nextReal = w == real ? next : nextReal;
                    facts[next] = facts[w];
                    for (int person = 0; person < persons; person++) {
                        labels[person * MOST + next] = label(person, w);
                    }
                    next++;
                }
            }
            count = next;
            real = nextReal;
        }

        /** kin: the least world that one is alike to; all of the same facts are, until a cell parts them. */
        private void findKin() {
            for (int w = 0; w < count; w++) {
                kin[w] = w;
                for (int v = w - 1; v >= 0; v--) {
                    if (facts[v] == facts[w]) {
                        kin[w] = kin[v];
                        break;
                    }
                }
            }
            boolean parted = true;
            for (int round = 0; round < count && parted; round++) {
                parted = false;
                for (int person = 0; person < persons; person++) {
                    parted = partKin(person) || parted;
                }
            }
        }

        private boolean partKin(int person) {
            gather(person);
            boolean parted = false;
            for (int w = 0; w < count; w++) {
                place[w] = firstLike(person, w);
                parted = parted || place[w] != kin[w];
            }
            System.arraycopy(place, 0, kin, 0, count);
            return parted;
        }

        /** low and high: by label the set of kin in that cell, as 128 bits. */
        private void gather(int person) {
            Arrays.fill(low, 0);
            Arrays.fill(high, 0);
            for (int w = 0; w < count; w++) {
                if (kin[w] < MOST_WORLDS) {
                    low[label(person, w)] |= 1L << kin[w];
                } else {
                    high[label(person, w)] |= 1L << (kin[w] - MOST_WORLDS);
                }
            }
        }

        private int firstLike(int person, int w) {
            int cell = label(person, w);
            for (int v = kin[w]; v < w; v++) {
                if (place[v] == v && kin[v] == kin[w]) {
                    int other = label(person, v);
                    if (low[other] == low[cell] && high[other] == high[cell]) {
                        return v;
                    }
                }
            }
            return w;
        }

        Worlds made() {
            long[] so = new long[factCount];
            long[] cells = new long[persons * stay];
            for (int w = 0; w < count; w++) {
                if (kin[w] == w) {
                    for (int fact = 0; fact < factCount; fact++) {
                        so[fact] |= (facts[w] >>> fact & 1L) << place[w];
                    }
                }
            }
            for (int person = 0; person < persons; person++) {
                layCells(person, cells);
            }
            return new Worlds(persons, stay, place[kin[real]], so, cells);
        }

        /** Those that stay are in one cell if the same kin are in the cells that they were in. */
        private void layCells(int person, long[] cells) {
            gather(person);
            int base = person * stay;
            for (int w = 0; w < count; w++) {
                if (kin[w] == w) {
                    cells[base + firstPlace(person, w)] |= 1L << place[w];
                }
            }
            for (int w = 0; w < count; w++) {
                if (kin[w] == w) {
                    cells[base + place[w]] = cells[base + firstPlace(person, w)];
                }
            }
        }

        private int firstPlace(int person, int w) {
            int cell = label(person, w);
            int first = low[cell] != 0 ? least(low[cell]) : MOST_WORLDS + least(high[cell]);
            return place[first];
        }

        private int label(int person, int w) {
            return labels[person * MOST + w];
        }
    }

    /** A row of numbers that sentences are written from. */
    private static final class Sheet {
        int bits = 0;
        int count = 0;
        final int[] numbers = new int[MOST_NUMBERS];

        boolean isMissing() {
            return bits == 0;
        }

        void lay(int newBits, int n) {
            bits = newBits;
            count = newBits == 0 ? 0 : n;
            Arrays.fill(numbers, 0);
        }

        void set(int i, int v) {
            numbers[i] = bits == 32 ? v : v & ((1 << bits) - 1);
        }

        boolean hasPart(int from, int n) {
            return from >= 0 && n >= 0 && n <= count - from;
        }
    }
}
