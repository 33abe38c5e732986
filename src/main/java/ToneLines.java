import java.util.Arrays;

/**
 * Tones on one row, syllables on another one, lines between them that never cross; rules that are
 * done with them in their order; and what comes of other orders and of other rows of tones.
 *
 * <p>All rows are made once, in the constructors, and used again: no call makes an object.
 */
public final class ToneLines {
    public static final int NONE = -1;

    /** What is told where something is asked of what is there, but has no such thing. */
    private static final int NO_SUCH_PART = -2;
    private static final int NO_HEIGHT = NONE - 99;
    /** A FAULT at byte 0 is told as this one, at byte 1 as the next below it. */
    private static final int FAULT_BASE = -4;

    private static final int MOST = 12;
    private static final int MOST_BYTES = 300;
    private static final int MOST_SIGNS = 256;
    private static final int MOST_ACTS = 12;
    private static final int MOST_RULES = 8;
    private static final int MOST_PASSES = 20;
    private static final int MOST_ORDERED = 6;
    private static final int MOST_ORDERS = 720;
    private static final int MOST_SOURCE = 6;

    private static final int LOW = 0;
    private static final int HIGH = 2;
    private static final int ANY = 3;

    private static final int LINK = 0;
    private static final int SPREAD = 1;
    private static final int SHIFT = 2;
    private static final int CUT = 3;
    private static final int DOCK = 4;
    private static final int DROP = 5;
    private static final int FUSE = 6;
    private static final int TURN = 7;
    private static final int FLAT = 8;
    private static final int FILL = 9;

    private static final int BEGIN = 0;
    private static final int END = 1;
    private static final int HEAVY = 2;
    private static final int MANY = 3;
    private static final int FLOAT = 4;
    private static final int BEFORE = 5;
    private static final int AFTER = 6;

    /** The parts of a RULE, by the numbers under which they are asked for. */
    private static final int PART_VERB = 0;
    private static final int PART_AGAIN = 1;
    private static final int PART_KIND = 2;
    private static final int PART_SECOND = 3;
    private static final int PART_SIDE = 4;
    private static final int PART_TEST = 5;
    private static final int PART_NOT = 6;
    private static final int PART_TEST_KIND = 7;
    private static final int PARTS = 8;

    private static final String TONE_SIGNS = "lmh";
    private static final String VERBS = "link spread shift cut dock drop fuse turn flat fill";
    private static final String TESTS = "begin end heavy many float before after";
    private static final String KINDS = "low mid high any";
    private static final String PLAIN_KINDS = "low mid high";
    private static final String SIDES = "right left";
    private static final String ENDS = "first last";

    private final Tape tape = new Tape();
    private final WordReader wordReader = new WordReader(tape);
    private final RuleReader ruleReader = new RuleReader(tape);
    private final Derivation derivation = new Derivation();
    private final Word told = derivation.told;
    private final History history = new History();
    private final Orders ordering = new Orders();
    private final Sources alikes = new Sources();
    private final Speller speller = new Speller();
    private final Word draft = new Word();

    public ToneLines() {
    }

    // ---- told

    public int feed(int a, int b, int c, int d, int e) {
        if (tape.size + 20 > MOST_BYTES) {
            return NONE;
        }
        tape.append(a);
        tape.append(b);
        tape.append(c);
        tape.append(d);
        tape.append(e);
        return tape.size;
    }

    public int back(int n) {
        if (n < 0 || n > tape.size) {
            return NONE;
        }
        tape.size -= n;
        return tape.size;
    }

    public int word() {
        int fault = wordReader.faultOf(draft);
        tape.size = 0;
        if (fault != NONE) {
            return FAULT_BASE - fault;
        }
        told.copyFrom(draft);
        history.acts = 0;
        outdate();
        return told.tones;
    }

    public int rules() {
        int fault = ruleReader.faultOfText();
        tape.size = 0;
        if (fault != NONE) {
            return FAULT_BASE - fault;
        }
        derivation.takeRules(ruleReader.drafts, ruleReader.read);
        outdate();
        return derivation.size;
    }

    // ---- by hand

    public boolean line(int tone, int syllable) {
        if (!told.isOpen(tone, syllable)) {
            return false;
        }
        beginAct();
        told.lines[tone] |= 1 << syllable;
        return true;
    }

    public boolean cut(int tone, int syllable) {
        if (!told.hasLine(tone, syllable)) {
            return false;
        }
        beginAct();
        told.lines[tone] &= ~(1 << syllable);
        return true;
    }

    public boolean tone(int t, int kind) {
        if (t < 0 || t > told.tones || told.tones >= MOST || !isKind(kind)) {
            return false;
        }
        beginAct();
        told.insertTone(t, kind);
        return true;
    }

    public boolean hush(int tone) {
        if (!told.hasTone(tone)) {
            return false;
        }
        beginAct();
        told.removeTone(tone);
        return true;
    }

    public int turn(int tone, int kind) {
        if (!told.hasTone(tone) || !isKind(kind) || told.kinds[tone] == kind) {
            return NONE;
        }
        beginAct();
        int was = told.kinds[tone];
        told.kinds[tone] = kind;
        return was;
    }

    public boolean grow(boolean heavy, boolean edge) {
        if (told.syllables >= MOST) {
            return false;
        }
        beginAct();
        told.addSyllable(heavy, edge);
        return true;
    }

    public boolean shrink() {
        if (told.syllables <= 0) {
            return false;
        }
        beginAct();
        told.removeSyllable();
        return true;
    }

    public boolean mark(int syllable, boolean heavy, boolean edge) {
        if (!told.hasSyllable(syllable)) {
            return false;
        }
        if (told.isHeavy(syllable) == heavy && told.hasEdge(syllable) == edge) {
            return false;
        }
        beginAct();
        told.setSyllable(syllable, heavy, edge);
        return true;
    }

    public int does(int rule) {
        if (!derivation.hasRule(rule)) {
            return NONE;
        }
        draft.copyFrom(told);
        int changes = derivation.doer.perform(derivation.list[rule], draft);
        becomes(draft, changes);
        return changes;
    }

    public int derive(int n) {
        if (!derivation.covers(n)) {
            return NONE;
        }
        Word last = derivation.stageOf(n);
        int changes = derivation.changesUpTo(n);
        becomes(last, changes);
        return changes;
    }

    public int undo() {
        if (history.acts <= 0) {
            return NONE;
        }
        history.giveBack(told);
        outdate();
        return history.acts;
    }

    // ---- asked of the WORD DERIVED by n

    public int has(int n, int what) {
        if (!derivation.covers(n)) {
            return NONE;
        }
        Word word = derivation.stageOf(n);
        switch (what) {
            case 0: return word.tones;
            case 1: return word.syllables;
            case 2: return word.lineCount();
            case 3: return word.floating();
            case 4: return word.bare();
            case 5: return word.fallsUpTo(word.tones - 1);
            case 6: return word.mostTones();
            case 7: return word.mostSyllables();
            case 8: return word.linkedFromFirst();
            default: return NONE;
        }
    }

    public int toneAt(int n, int tone, int what) {
        if (!derivation.covers(n)) {
            return NONE;
        }
        Word word = derivation.stageOf(n);
        if (!word.hasTone(tone)) {
            return what == 4 ? NO_HEIGHT : NONE;
        }
        boolean floats = word.lines[tone] == 0;
        switch (what) {
            case 0: return word.kinds[tone];
            case 1: return floats ? NO_SUCH_PART : lowest(word.lines[tone]);
            case 2: return floats ? NO_SUCH_PART : highest(word.lines[tone]);
            case 3: return Integer.bitCount(word.lines[tone]);
            case 4: return 3 * (word.kinds[tone] + 1) - word.fallsUpTo(tone);
            default: return NONE;
        }
    }

    public int syllableAt(int n, int syllable, int what) {
        if (!derivation.covers(n)) {
            return NONE;
        }
        Word word = derivation.stageOf(n);
        if (!word.hasSyllable(syllable)) {
            return NONE;
        }
        int tones = word.tonesOf(syllable);
        switch (what) {
            case 0: return word.isHeavy(syllable) ? 1 : 0;
            case 1: return word.hasEdge(syllable) ? 1 : 0;
            case 2: return Integer.bitCount(tones);
            case 3: return tones == 0 ? NO_SUCH_PART : lowest(tones);
            case 4: return tones == 0 ? NO_SUCH_PART : highest(tones);
            case 5: return word.readOf(syllable);
            default: return NONE;
        }
    }

    public int linesOf(int n, int tone) {
        if (!derivation.covers(n)) {
            return NONE;
        }
        Word word = derivation.stageOf(n);
        return word.hasTone(tone) ? word.lines[tone] : NONE;
    }

    public int open(int n, int tone, int syllable) {
        if (!derivation.covers(n)) {
            return NONE;
        }
        Word word = derivation.stageOf(n);
        if (!word.hasTone(tone) || !word.hasSyllable(syllable)) {
            return NONE;
        }
        return word.isOpen(tone, syllable) ? 1 : 0;
    }

    public int spell(int n, int i) {
        if (!derivation.covers(n) || i < NONE) {
            return NONE;
        }
        speller.write(derivation.stageOf(n));
        if (i == NONE) {
            return speller.size;
        }
        return i < speller.size ? speller.signs[i] : NONE;
    }

    // ---- rules

    public int rule(int rule, int what) {
        if (!derivation.hasRule(rule) || what < 0 || what >= PARTS) {
            return NONE;
        }
        return derivation.list[rule].parts[what];
    }

    public int done(int rule, int what) {
        if (!derivation.hasRule(rule) || what < 0 || what > 1) {
            return NONE;
        }
        derivation.stageOf(rule + 1);
        return what == 0 ? derivation.changes[rule] : derivation.passes[rule];
    }

    public int exchanged(int rule) {
        if (!derivation.hasRule(rule) || !derivation.hasRule(rule + 1)) {
            return NONE;
        }
        draft.copyFrom(derivation.stageOf(rule));
        derivation.doer.perform(derivation.list[rule + 1], draft);
        derivation.doer.perform(derivation.list[rule], draft);
        derivation.finish(draft, rule + 2);
        return draft.isReadAs(derivation.stageOf(derivation.size)) ? 0 : 1;
    }

    public int needed() {
        int bits = 0;
        Word whole = derivation.stageOf(derivation.size);
        for (int r = 0; r < derivation.size; r++) {
            draft.copyFrom(derivation.stageOf(r));
            derivation.finish(draft, r + 1);
            if (!draft.isReadAs(whole)) {
                bits |= 1 << r;
            }
        }
        return bits;
    }

    public int orders(int what) {
        if (what < 0 || what > 1) {
            return NONE;
        }
        if (derivation.size > MOST_ORDERED) {
            return NO_SUCH_PART;
        }
        if (!ordering.inDate) {
            ordering.reckon(derivation, derivation.stageOf(derivation.size));
        }
        return what == 0 ? ordering.unlike : ordering.same;
    }

    public int sources(int n) {
        if (n < 0 || n > MOST_SOURCE) {
            return NONE;
        }
        alikes.bring(derivation, derivation.stageOf(derivation.size), n);
        return alikes.counts[n];
    }

    public int source(int n) {
        if (n < 0 || n > MOST_SOURCE) {
            return NONE;
        }
        alikes.bring(derivation, derivation.stageOf(derivation.size), n);
        return alikes.firsts[n];
    }

    public int count(int what) {
        switch (what) {
            case 0:
                return derivation.size;
            case 1:
                return history.acts;
            case 2:
                return tape.size;
            case 3:
                derivation.stageOf(derivation.size);
                return derivation.idleRules();
            default:
                return NONE;
        }
    }

    private void beginAct() {
        history.keep(told);
        outdate();
    }

    /** CHANGES that undo one another make an ACT, too: so they are asked, not the WORDS. */
    private void becomes(Word next, int changes) {
        if (changes > 0) {
            beginAct();
            told.copyFrom(next);
        }
    }

    private void outdate() {
        derivation.ready = 0;
        ordering.inDate = false;
        alikes.known = 0;
    }

    private static boolean isKind(int kind) {
        return kind >= LOW && kind <= HIGH;
    }

    private static boolean isLetter(int sign) {
        return sign >= 'a' && sign <= 'z';
    }

    /** NONE, if it is no digit. */
    private static int digitOf(int sign) {
        return sign >= '0' && sign <= '9' ? sign - '0' : NONE;
    }

    /** The least place that is set; NONE, if none is. */
    private static int lowest(int bits) {
        return bits == 0 ? NONE : Integer.bitCount((bits & -bits) - 1);
    }

    /** The greatest place that is set, of the places a row can have; NONE, if none is. */
    private static int highest(int bits) {
        for (int i = MOST - 1; i >= 0; i--) {
            if ((bits >> i & 1) != 0) {
                return i;
            }
        }
        return NONE;
    }

    /** TONES, SYLLABLES, LINES; those who call look after what the document allows. */
    private static final class Word {
        int tones = 0;
        int syllables = 0;
        int heavy = 0;
        int edges = 0;
        final int[] kinds = new int[MOST];
        /** Of each TONE the SYLLABLES it has LINES to, as bits. */
        final int[] lines = new int[MOST];

        void clear() {
            tones = 0;
            syllables = 0;
            heavy = 0;
            edges = 0;
        }

        void copyFrom(Word other) {
            copySyllables(other);
            tones = other.tones;
            System.arraycopy(other.kinds, 0, kinds, 0, MOST);
            System.arraycopy(other.lines, 0, lines, 0, MOST);
        }

        void copySyllables(Word other) {
            syllables = other.syllables;
            heavy = other.heavy;
            edges = other.edges;
        }

        boolean hasTone(int t) {
            return t >= 0 && t < tones && t < MOST;
        }

        boolean hasSyllable(int s) {
            return s >= 0 && s < syllables;
        }

        boolean hasLine(int t, int s) {
            return hasTone(t) && hasSyllable(s) && (lines[t] >> s & 1) != 0;
        }

        boolean isHeavy(int s) {
            return hasSyllable(s) && (heavy >> s & 1) != 0;
        }

        boolean hasEdge(int s) {
            return hasSyllable(s) && (edges >> s & 1) != 0;
        }

        boolean isBare(int s) {
            return hasSyllable(s) && (bare() >> s & 1) != 0;
        }

        boolean isOpen(int t, int s) {
            return hasTone(t) && hasSyllable(s) && (lines[t] >> s & 1) == 0
                && crossesNone(t, t + 1, s);
        }

        /** Of a LINE to s: whether it crosses none of the TONES below ahead, or from behind on. */
        boolean crossesNone(int ahead, int behind, int s) {
            int beyond = 0;
            for (int u = 0; u < ahead && u < tones; u++) {
                beyond |= lines[u] >> s >> 1;
            }
            int before = 0;
            for (int u = behind; u >= 0 && u < tones; u++) {
                before |= lines[u] & (1 << s) - 1;
            }
            return beyond == 0 && before == 0;
        }

        int kindOf(int t) {
            return hasTone(t) ? kinds[t] : NONE;
        }

        int linesFrom(int t) {
            return hasTone(t) ? lines[t] : 0;
        }

        /** Nothing comes, if there is no such place or no room. */
        void insertTone(int t, int kind) {
            if (t < 0 || t > tones || tones >= MOST) {
                return;
            }
            for (int u = tones; u > t; u--) {
                kinds[u] = kinds[u - 1];
                lines[u] = lines[u - 1];
            }
            kinds[t] = kind;
            lines[t] = 0;
            tones++;
        }

        void removeTone(int t) {
            if (!hasTone(t)) {
                return;
            }
            for (int u = t; u < tones - 1; u++) {
                kinds[u] = kinds[u + 1];
                lines[u] = lines[u + 1];
            }
            tones--;
        }

        void addSyllable(boolean isHeavy, boolean hasEdge) {
            if (syllables < MOST) {
                syllables++;
                setSyllable(syllables - 1, isHeavy, hasEdge);
            }
        }

        void removeSyllable() {
            if (syllables > 0) {
                syllables--;
                for (int t = 0; t < tones; t++) {
                    lines[t] &= ~(1 << syllables);
                }
            }
        }

        void setSyllable(int s, boolean isHeavy, boolean hasEdge) {
            int bit = 1 << s;
            heavy = isHeavy ? heavy | bit : heavy & ~bit;
            edges = hasEdge ? edges | bit : edges & ~bit;
        }

        int bare() {
            int linked = 0;
            for (int t = 0; t < tones; t++) {
                linked |= lines[t];
            }
            return (1 << syllables) - 1 & ~linked;
        }

        int floating() {
            int bits = 0;
            for (int t = 0; t < tones; t++) {
                if (lines[t] == 0) {
                    bits |= 1 << t;
                }
            }
            return bits;
        }

        int tonesOf(int s) {
            int bits = 0;
            for (int t = 0; t < tones; t++) {
                bits |= (lines[t] >> s & 1) << t;
            }
            return bits;
        }

        int lineCount() {
            int all = 0;
            for (int t = 0; t < tones; t++) {
                all += Integer.bitCount(lines[t]);
            }
            return all;
        }

        int mostTones() {
            int most = 0;
            for (int s = 0; s < syllables; s++) {
                most = Math.max(most, Integer.bitCount(tonesOf(s)));
            }
            return most;
        }

        int mostSyllables() {
            int most = 0;
            for (int t = 0; t < tones; t++) {
                most = Math.max(most, Integer.bitCount(lines[t]));
            }
            return most;
        }

        int linkedFromFirst() {
            int firstBare = lowest(bare());
            return firstBare == NONE ? syllables : firstBare;
        }

        int fallsUpTo(int t) {
            int falls = 0;
            boolean highAhead = false;
            boolean lowSince = false;
            for (int u = 0; u <= t && u < tones; u++) {
                if (kinds[u] == LOW) {
                    lowSince = true;
                } else if (kinds[u] == HIGH) {
                    if (highAhead && lowSince) {
                        falls++;
                    }
                    highAhead = true;
                    lowSince = false;
                }
            }
            return falls;
        }

        int readOf(int s) {
            int read = 0;
            for (int t = tones - 1; t >= 0; t--) {
                if ((lines[t] >> s & 1) != 0) {
                    read = read * 4 + kinds[t] + 1;
                }
            }
            return read;
        }

        /**
         * The KINDS at all LINES, one behind the other: LINES that never cross stand in the same
         * order by TONES as by SYLLABLES, and there are 23 at most, so a long holds them.
         */
        long kindsRead() {
            long read = 0;
            for (int t = 0; t < tones; t++) {
                for (int rest = lines[t]; rest != 0; rest &= rest - 1) {
                    read = read * 4 + kinds[t] + 1;
                }
            }
            return read;
        }

        /** How many LINES each SYLLABLE has: with kindsRead it tells all that is READ. */
        long linesRead() {
            long read = 0;
            for (int t = 0; t < tones; t++) {
                for (int rest = lines[t]; rest != 0; rest &= rest - 1) {
                    read += 1L << 4 * lowest(rest);
                }
            }
            return read;
        }

        boolean isReadAs(Word other) {
            return kindsRead() == other.kindsRead() && linesRead() == other.linesRead();
        }
    }

    /** A RULE, its parts by the numbers under which they are asked for. */
    private static final class Rule {
        final int[] parts = new int[PARTS];

        void clear() {
            Arrays.fill(parts, NO_SUCH_PART);
            parts[PART_AGAIN] = 0;
            parts[PART_NOT] = 0;
        }

        void copyFrom(Rule other) {
            System.arraycopy(other.parts, 0, parts, 0, PARTS);
        }

        boolean isOf(int kind) {
            return parts[PART_KIND] == ANY || parts[PART_KIND] == kind;
        }

        /** Whether the TONES are gone over from the last one on: last, an END, is no left. */
        boolean goesLeft() {
            int verb = parts[PART_VERB];
            return parts[PART_SIDE] == 1 && (verb == SPREAD || verb == SHIFT || verb == DOCK);
        }

        /** Whether the if of a TONE lets it take its turn. */
        boolean admits(Word word, int t) {
            int own = word.linesFrom(t);
            boolean holds;
            switch (parts[PART_TEST]) {
                case BEGIN: holds = lowest(own) == 0; break;
                case END: holds = own != 0 && highest(own) == word.syllables - 1; break;
                case HEAVY: holds = word.isHeavy(highest(own)); break;
                case MANY: holds = Integer.bitCount(own) >= 2; break;
                case FLOAT: holds = own == 0; break;
                case BEFORE: holds = isTestKind(word.kindOf(t + 1)); break;
                case AFTER: holds = isTestKind(word.kindOf(t - 1)); break;
                default: return true;
            }
            return holds != (parts[PART_NOT] == 1);
        }

        private boolean isTestKind(int kind) {
            return kind != NONE && (parts[PART_TEST_KIND] == ANY || parts[PART_TEST_KIND] == kind);
        }
    }

    /** Does RULES with WORDS. */
    private static final class Doer {
        /** Of the RULE that was done last. */
        int passes = 0;

        /** The CHANGES. */
        int perform(Rule rule, Word word) {
            int changes = 0;
            boolean more = true;
            for (passes = 0; more && passes < MOST_PASSES; passes++) {
                int now;
                switch (rule.parts[PART_VERB]) {
                    case LINK: now = passOfLink(rule, word); break;
                    case FLAT: now = passOfFlat(rule, word); break;
                    case FILL: now = passOfFill(rule, word); break;
                    default: now = passOverTones(rule, word); break;
                }
                changes += now;
                more = now > 0 && rule.parts[PART_AGAIN] == 1;
            }
            return changes;
        }

        private int passOfLink(Rule rule, Word word) {
            boolean left = rule.parts[PART_SIDE] == 1;
            int changes = 0;
            for (int i = 0; i < word.syllables; i++) {
                int s = left ? word.syllables - 1 - i : i;
                int t = word.isBare(s) ? floatingFor(word, s, left) : NONE;
                if (word.hasTone(t)) {
                    word.lines[t] |= 1 << s;
                    changes++;
                }
            }
            return changes;
        }

        private int floatingFor(Word word, int s, boolean left) {
            for (int i = 0; i < word.tones; i++) {
                int t = left ? word.tones - 1 - i : i;
                if (word.linesFrom(t) == 0 && word.isOpen(t, s)) {
                    return t;
                }
            }
            return NONE;
        }

        private int passOfFlat(Rule rule, Word word) {
            boolean last = rule.parts[PART_SIDE] == 1;
            int changes = 0;
            for (int s = 0; s < word.syllables; s++) {
                int tones = word.tonesOf(s);
                int over = Integer.bitCount(tones) - rule.parts[PART_SECOND];
                for (int i = 0; i < over; i++) {
                    int t = last ? highest(tones) : lowest(tones);
                    if (word.hasTone(t)) {
                        word.lines[t] &= ~(1 << s);
                        tones &= ~(1 << t);
                        changes++;
                    }
                }
            }
            return changes;
        }

        private int passOfFill(Rule rule, Word word) {
            int changes = 0;
            for (int s = 0; s < word.syllables; s++) {
                int place = word.isBare(s) ? placeToFill(word, s) : NONE;
                if (place != NONE && word.tones < MOST && word.crossesNone(place, place, s)) {
                    word.insertTone(place, rule.parts[PART_KIND]);
                    word.lines[place] |= 1 << s;
                    changes += 2;
                }
            }
            return changes;
        }

        /** Directly behind the last TONE with a LINE to a SYLLABLE ahead of s. */
        private int placeToFill(Word word, int s) {
            int place = 0;
            for (int t = 0; t < word.tones; t++) {
                if ((word.linesFrom(t) & (1 << s) - 1) != 0) {
                    place = t + 1;
                }
            }
            return place;
        }

        private int passOverTones(Rule rule, Word word) {
            int verb = rule.parts[PART_VERB];
            int second = rule.parts[PART_SECOND];
            boolean other = rule.parts[PART_SIDE] == 1;
            boolean left = rule.goesLeft();
            int all = word.tones;
            int t = left ? all - 1 : 0;
            int changes = 0;
            for (int turns = 0; turns < all && word.hasTone(t); turns++) {
                int now = 0;
                if (rule.isOf(word.kindOf(t)) && rule.admits(word, t)) {
                    switch (verb) {
                        case SPREAD: now = spread(word, t, left, second); break;
                        case SHIFT: now = spread(word, t, left, 1); break;
                        case CUT: now = cutOff(word, t, other); break;
                        case DOCK: now = dock(word, t, left); break;
                        case DROP: now = drop(word, t); break;
                        case FUSE: now = fuse(word, t); break;
                        case TURN: now = turnTo(word, t, second); break;
                        default: break;
                    }
                }
                if (verb == SHIFT && now > 0) {
                    now += leave(word, t, left);
                }
                changes += now;
                // A TONE that drops leaves its number to the next one.
                t += left ? -1 : verb == DROP && now > 0 ? 0 : 1;
            }
            return changes;
        }

        private int spread(Word word, int t, boolean left, int times) {
            int came = 0;
            for (int i = 0; i < times && word.linesFrom(t) != 0; i++) {
                int from = left ? lowest(word.lines[t]) : highest(word.lines[t]);
                int to = left ? from - 1 : from + 1;
                boolean edged = word.hasEdge(left ? from : to);
                if (edged || !word.isBare(to) || !word.isOpen(t, to)) {
                    break;
                }
                word.lines[t] |= 1 << to;
                came++;
            }
            return came;
        }

        /** The LINE next to the one that came to a TONE that shifts goes. */
        private int leave(Word word, int t, boolean left) {
            int own = word.linesFrom(t);
            int came = 1 << Math.max(0, left ? lowest(own) : highest(own));
            int rest = own & ~came;
            if (rest == 0) {
                return 0;
            }
            word.lines[t] &= ~(1 << (left ? lowest(rest) : highest(rest)));
            return 1;
        }

        private int cutOff(Word word, int t, boolean last) {
            int own = word.linesFrom(t);
            if (own == 0) {
                return 0;
            }
            word.lines[t] &= ~(1 << (last ? highest(own) : lowest(own)));
            return 1;
        }

        private int dock(Word word, int t, boolean left) {
            if (!word.hasTone(t) || word.lines[t] != 0) {
                return 0;
            }
            int step = left ? -1 : 1;
            int u = t + step;
            while (word.hasTone(u) && word.linesFrom(u) == 0) {
                u += step;
            }
            int s = left ? highest(word.linesFrom(u)) : lowest(word.linesFrom(u));
            if (!word.isOpen(t, s)) {
                return 0;
            }
            word.lines[t] |= 1 << s;
            return 1;
        }

        private int drop(Word word, int t) {
            if (word.linesFrom(t) != 0) {
                return 0;
            }
            word.removeTone(t);
            return 1;
        }

        private int fuse(Word word, int t) {
            int changes = 0;
            for (int more = word.tones - 1 - t; more > 0; more--) {
                if (!word.hasTone(t + 1) || word.kindOf(t) != word.kinds[t + 1]) {
                    break;
                }
                int anew = word.lines[t + 1] & ~word.lines[t];
                word.lines[t] |= anew;
                word.removeTone(t + 1);
                changes += Integer.bitCount(anew) + 1;
            }
            return changes;
        }

        private int turnTo(Word word, int t, int kind) {
            int was = word.kindOf(t);
            if (was == NONE || was == kind || word.kindOf(t - 1) != was) {
                return 0;
            }
            word.kinds[t] = kind;
            return 1;
        }
    }

    /** The RULES, and the WORD as they make it, kept as long as neither is changed. */
    private static final class Derivation {
        final Doer doer = new Doer();
        final Rule[] list = new Rule[MOST_RULES];
        int size = 0;
        /** DERIVED by each number: the one by 0 is the WORD as told itself. */
        final Word[] stages = new Word[MOST_RULES + 1];
        final Word told;
        final int[] changes = new int[MOST_RULES];
        final int[] passes = new int[MOST_RULES];
        /** How many RULES are done in stages, changes, passes. */
        int ready = 0;

        Derivation() {
            for (int r = 0; r < MOST_RULES; r++) {
                list[r] = new Rule();
            }
            for (int n = 0; n <= MOST_RULES; n++) {
                stages[n] = new Word();
            }
            told = stages[0];
        }

        boolean hasRule(int r) {
            return r >= 0 && r < size && r < MOST_RULES;
        }

        boolean covers(int n) {
            return n >= 0 && n <= size;
        }

        void takeRules(Rule[] rules, int many) {
            size = Math.min(many, MOST_RULES);
            for (int r = 0; r < size && r < rules.length; r++) {
                list[r].copyFrom(rules[r]);
            }
        }

        /** The WORD DERIVED by n; for an n that is not covered as told. */
        Word stageOf(int n) {
            if (!covers(n)) {
                return told;
            }
            for (; ready < n; ready++) {
                Word next = stages[ready + 1];
                next.copyFrom(stages[ready]);
                changes[ready] = doer.perform(list[ready], next);
                passes[ready] = doer.passes;
            }
            return stages[n];
        }

        /** Of RULES that stageOf has done. */
        int changesUpTo(int n) {
            int all = 0;
            for (int r = 0; r < n && r < ready; r++) {
                all += changes[r];
            }
            return all;
        }

        /** As bits, of RULES that stageOf has done. */
        int idleRules() {
            int bits = 0;
            for (int r = 0; r < ready; r++) {
                if (changes[r] == 0) {
                    bits |= 1 << r;
                }
            }
            return bits;
        }

        /** RULES from one on are done in their order. */
        void finish(Word word, int from) {
            for (int r = Math.max(0, from); r < size; r++) {
                doer.perform(list[r], word);
            }
        }
    }

    /** The WORD as it was ahead of the latest ACTS. */
    private static final class History {
        private final Word[] ring = new Word[MOST_ACTS];
        private int next = 0;
        int acts = 0;

        History() {
            for (int i = 0; i < MOST_ACTS; i++) {
                ring[i] = new Word();
            }
        }

        void keep(Word word) {
            ring[next].copyFrom(word);
            next = next + 1 < MOST_ACTS ? next + 1 : 0;
            acts = Math.min(acts + 1, MOST_ACTS);
        }

        void giveBack(Word word) {
            if (acts > 0) {
                next = next > 0 ? next - 1 : MOST_ACTS - 1;
                acts--;
                word.copyFrom(ring[next]);
            }
        }
    }

    /** What comes of all ORDERS. */
    private static final class Orders {
        boolean inDate = false;
        int unlike = 0;
        int same = 0;
        private final int[] order = new int[MOST_ORDERED];
        /** By how many RULES of the order: orders that begin alike share what these make. */
        private final Word[] levels = new Word[MOST_ORDERED + 1];
        private final long[] kindsRead = new long[MOST_ORDERS];
        private final long[] linesRead = new long[MOST_ORDERS];

        Orders() {
            for (int i = 0; i <= MOST_ORDERED; i++) {
                levels[i] = new Word();
            }
        }

        void reckon(Derivation all, Word asTheyStand) {
            int many = Math.min(all.size, MOST_ORDERED);
            long dueKinds = asTheyStand.kindsRead();
            long dueLines = asTheyStand.linesRead();
            Word last = levels[many];
            for (int i = 0; i < many; i++) {
                order[i] = i;
            }
            levels[0].copyFrom(all.told);
            unlike = 0;
            same = 0;
            int from = 0;
            for (int i = 0; i < MOST_ORDERS && from != NONE; i++) {
                for (int k = from; k < many; k++) {
                    levels[k + 1].copyFrom(levels[k]);
                    all.doer.perform(all.list[order[k]], levels[k + 1]);
                }
                long kinds = last.kindsRead();
                long lines = last.linesRead();
                enter(kinds, lines);
                same += kinds == dueKinds && lines == dueLines ? 1 : 0;
                from = nextOrder(many);
            }
            inDate = true;
        }

        private void enter(long kinds, long lines) {
            for (int i = 0; i < unlike; i++) {
                if (kindsRead[i] == kinds && linesRead[i] == lines) {
                    return;
                }
            }
            if (unlike < MOST_ORDERS) {
                kindsRead[unlike] = kinds;
                linesRead[unlike] = lines;
                unlike++;
            }
        }

        /** The next order, rising: the first place at which it is another; NONE behind the last. */
        private int nextOrder(int many) {
            int place = many - 2;
            while (place >= 0 && order[place] > order[place + 1]) {
                place--;
            }
            if (place < 0) {
                return NONE;
            }
            int other = many - 1;
            while (other > place + 1 && order[other] < order[place]) {
                other--;
            }
            exchange(place, other);
            for (int a = place + 1, b = many - 1; a < b; a++, b--) {
                exchange(a, b);
            }
            return place;
        }

        private void exchange(int a, int b) {
            int held = order[a];
            order[a] = order[b];
            order[b] = held;
        }
    }

    /** Rows of TONES that are READ alike, by how many TONES they have. */
    private static final class Sources {
        /** As bits: by which numbers counts and firsts are in date. */
        int known = 0;
        final int[] counts = new int[MOST_SOURCE + 1];
        final int[] firsts = new int[MOST_SOURCE + 1];
        private final Word row = new Word();

        void bring(Derivation all, Word whole, int n) {
            if (n < 0 || n > MOST_SOURCE || (known >> n & 1) != 0) {
                return;
            }
            int rows = 1;
            for (int i = 0; i < n; i++) {
                rows *= 3;
            }
            long dueKinds = whole.kindsRead();
            long dueLines = whole.linesRead();
            counts[n] = 0;
            firsts[n] = NO_SUCH_PART;
            for (int number = 0; number < rows; number++) {
                layRow(all.told, n, number);
                for (int r = 0; r < all.size; r++) {
                    all.doer.perform(all.list[r], row);
                }
                if (row.kindsRead() == dueKinds && row.linesRead() == dueLines) {
                    firsts[n] = counts[n] == 0 ? number : firsts[n];
                    counts[n]++;
                }
            }
            known |= 1 << n;
        }

        private void layRow(Word told, int n, int number) {
            row.clear();
            row.copySyllables(told);
            int rest = number;
            for (int i = 0; i < n; i++) {
                row.insertTone(0, rest % 3);
                rest /= 3;
            }
        }
    }

    /** The bytes that were fed and not yet read. */
    private static final class Tape {
        private final byte[] bytes = new byte[MOST_BYTES];
        int size = 0;

        /** Four bytes, the highest first. */
        void append(int four) {
            for (int shift = 24; shift >= 0 && size < MOST_BYTES; shift -= 8) {
                bytes[size] = (byte) (four >> shift);
                size++;
            }
        }

        /** NONE, where there is none. */
        int signAt(int i) {
            return i >= 0 && i < size && i < MOST_BYTES ? bytes[i] & 255 : NONE;
        }

        int skipBlanks(int from) {
            int i = from;
            while (i >= 0 && i < size && i < MOST_BYTES && bytes[i] == ' ') {
                i++;
            }
            return i;
        }
    }

    /** Reads the TEXT of a WORD; where it stops is the FAULT, so an early end is its length. */
    private static final class WordReader {
        private final Tape tape;
        private int at = 0;

        WordReader(Tape tape) {
            this.tape = tape;
        }

        /** NONE, if there is no FAULT. */
        int faultOf(Word word) {
            word.clear();
            at = 0;
            boolean whole = readTones(word) && readSyllables(word) && readLines(word);
            return whole ? NONE : at;
        }

        private boolean readTones(Word word) {
            for (at = tape.skipBlanks(at); at < tape.size; at = tape.skipBlanks(at + 1)) {
                int sign = tape.signAt(at);
                if (sign == '/') {
                    at++;
                    return true;
                }
                int kind = TONE_SIGNS.indexOf((char) sign);
                if (kind < 0 || word.tones >= MOST) {
                    return false;
                }
                word.insertTone(word.tones, kind);
            }
            return false;
        }

        private boolean readSyllables(Word word) {
            boolean edge = false;
            for (at = tape.skipBlanks(at); at < tape.size; at = tape.skipBlanks(at + 1)) {
                int sign = tape.signAt(at);
                if (sign == '/' && !edge) {
                    at++;
                    return true;
                }
                if (sign == '-' && !edge) {
                    edge = true;
                } else if ((sign == 'o' || sign == 'O') && word.syllables < MOST) {
                    word.addSyllable(sign == 'O', edge);
                    edge = false;
                } else {
                    return false;
                }
            }
            return false;
        }

        private boolean readLines(Word word) {
            at = tape.skipBlanks(at);
            for (int i = 0; at < tape.size && i < MOST_BYTES; i++) {
                int start = at;
                int t = readNumber(word.tones);
                if (t == NONE || !readColon()) {
                    return false;
                }
                int s = readNumber(word.syllables);
                if (s == NONE) {
                    return false;
                }
                if (!word.isOpen(t, s)) {
                    at = start;
                    return false;
                }
                word.lines[t] |= 1 << s;
                if (at < tape.size && tape.signAt(at) != ' ') {
                    return false;
                }
                at = tape.skipBlanks(at);
            }
            return true;
        }

        /** A number below a limit; NONE, if there is none such. */
        private int readNumber(int limit) {
            int first = digitOf(tape.signAt(at));
            if (first == NONE) {
                return NONE;
            }
            int second = digitOf(tape.signAt(at + 1));
            int number = second == NONE ? first : first * 10 + second;
            if (number >= limit) {
                return NONE;
            }
            at += second == NONE ? 1 : 2;
            return number;
        }

        private boolean readColon() {
            at = tape.skipBlanks(at);
            if (tape.signAt(at) != ':') {
                return false;
            }
            at = tape.skipBlanks(at + 1);
            return true;
        }
    }

    /** Reads the TEXT of RULES, piece by piece: WORDS, digits, other signs. */
    private static final class RuleReader {
        private final Tape tape;
        final Rule[] drafts = new Rule[MOST_RULES];
        /** How many of drafts were read. */
        int read = 0;
        /** The piece that is next: from start up to end. */
        private int start = 0;
        private int end = 0;
        /** Whether it lacks the blank that must stand ahead of it. */
        private boolean joined = false;

        RuleReader(Tape tape) {
            this.tape = tape;
            for (int r = 0; r < MOST_RULES; r++) {
                drafts[r] = new Rule();
            }
        }

        /** NONE, if there is no FAULT. */
        int faultOfText() {
            read = 0;
            end = 0;
            step();
            while (start < tape.size) {
                if (read >= MOST_RULES || !readRule(drafts[read])) {
                    return start;
                }
                read++;
            }
            return NONE;
        }

        private void step() {
            int behind = end;
            start = tape.skipBlanks(behind);
            end = start;
            while (end < tape.size && isLetter(tape.signAt(end))) {
                end++;
            }
            if (end == start && end < tape.size) {
                end++;
            }
            joined = start == behind && needsBlank(tape.signAt(behind - 1))
                && needsBlank(tape.signAt(start));
        }

        /** Whether it is of a piece of which two must have a blank between them. */
        private static boolean needsBlank(int sign) {
            return sign >= 'a' && sign <= 'z' || sign >= '0' && sign <= '9';
        }

        private boolean readRule(Rule rule) {
            rule.clear();
            if (readWord("again")) {
                rule.parts[PART_AGAIN] = 1;
            }
            if (!readChoice(rule, PART_VERB, VERBS) || !readParts(rule)) {
                return false;
            }
            if (mayHaveIf(rule.parts[PART_VERB]) && readWord("if") && !readTest(rule)) {
                return false;
            }
            if (tape.signAt(start) != ';') {
                return false;
            }
            step();
            return true;
        }

        private static boolean mayHaveIf(int verb) {
            return verb != LINK && verb != FLAT && verb != FILL;
        }

        private boolean readParts(Rule rule) {
            int verb = rule.parts[PART_VERB];
            if (verb == FLAT) {
                return readTimes(rule) && readChoice(rule, PART_SIDE, ENDS);
            }
            if (verb != LINK && !readChoice(rule, PART_KIND, verb == FILL ? PLAIN_KINDS : KINDS)) {
                return false;
            }
            switch (verb) {
                case LINK:
                case SHIFT:
                case DOCK:
                    return readChoice(rule, PART_SIDE, SIDES);
                case SPREAD:
                    return readChoice(rule, PART_SIDE, SIDES) && readTimes(rule);
                case CUT:
                    return readChoice(rule, PART_SIDE, ENDS);
                case TURN:
                    return readWord("to") && readChoice(rule, PART_SECOND, PLAIN_KINDS);
                default:
                    return true;
            }
        }

        private boolean readTest(Rule rule) {
            if (readWord("not")) {
                rule.parts[PART_NOT] = 1;
            }
            if (!readChoice(rule, PART_TEST, TESTS)) {
                return false;
            }
            int test = rule.parts[PART_TEST];
            return test != BEFORE && test != AFTER || readChoice(rule, PART_TEST_KIND, KINDS);
        }

        private boolean readTimes(Rule rule) {
            int times = digitOf(tape.signAt(start));
            if (joined || times < 1) {
                return false;
            }
            rule.parts[PART_SECOND] = times;
            step();
            return true;
        }

        private boolean readWord(String name) {
            if (choiceOf(name) != 0) {
                return false;
            }
            step();
            return true;
        }

        private boolean readChoice(Rule rule, int part, String names) {
            int choice = choiceOf(names);
            if (choice == NONE || part < 0 || part >= PARTS) {
                return false;
            }
            rule.parts[part] = choice;
            step();
            return true;
        }

        /** Which of the names, with blanks between them, the piece is; NONE, if it is none. */
        private int choiceOf(String names) {
            int choice = 0;
            int at = start;
            boolean alike = !joined;
            for (int i = 0; i <= names.length(); i++) {
                if (i == names.length() || names.charAt(i) == ' ') {
                    if (alike && at == end) {
                        return choice;
                    }
                    choice++;
                    at = start;
                    alike = !joined;
                } else {
                    alike = alike && at < end && tape.signAt(at) == names.charAt(i);
                    at++;
                }
            }
            return NONE;
        }
    }

    /** Writes a WORD as a TEXT. */
    private static final class Speller {
        final char[] signs = new char[MOST_SIGNS];
        int size = 0;

        void write(Word word) {
            size = 0;
            for (int t = 0; t < word.tones; t++) {
                int kind = word.kindOf(t);
                put(kind == HIGH ? 'h' : kind == LOW ? 'l' : 'm');
            }
            put('/');
            for (int s = 0; s < word.syllables; s++) {
                if (word.hasEdge(s)) {
                    put('-');
                }
                put(word.isHeavy(s) ? 'O' : 'o');
            }
            put('/');
            writeLines(word);
        }

        private void writeLines(Word word) {
            boolean first = true;
            for (int t = 0; t < word.tones; t++) {
                for (int rest = word.linesFrom(t); rest != 0; rest &= rest - 1) {
                    if (!first) {
                        put(' ');
                    }
                    first = false;
                    putNumber(t);
                    put(':');
                    putNumber(lowest(rest));
                }
            }
        }

        private void putNumber(int number) {
            if (number >= 10) {
                put((char) ('0' + number / 10));
            }
            put((char) ('0' + number % 10));
        }

        private void put(char sign) {
            if (size < MOST_SIGNS) {
                signs[size] = sign;
                size++;
            }
        }
    }
}
