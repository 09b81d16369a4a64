import java.util.Arrays;

/**
 * A roll like coal, seen in slices. The document's promises are the public methods; README.md tells how to use them.
 *
 * Every row that a call needs is made in the constructors and used again, so that calls make no objects.
 */
public final class CharredRoll {
    public static final int NONE = -1;

    private static final int SLICES = 6;
    private static final int MOST_TURNS = 4;
    private static final int FEWEST_ANGLES = 3;
    private static final int MOST_ANGLES = 6;
    private static final int FEWEST_RADII = 4;
    private static final int MOST_RADII = 12;
    private static final int MOST_PLACES = MOST_TURNS * MOST_ANGLES;
    private static final int MOST_DARK = 9;
    private static final int MOST_PINS = 20;
    private static final int MOST_STEPS = 30;
    private static final int MOST_JUMP = 99;
    private static final int NO_WALK = -1000;
    private static final int MOST_READERS = 4;
    private static final int MOST_BYTES = 300;
    private static final int MOST_BITS = 60;
    private static final int GROUPS = 4;
    private static final int MOST_LETTERS = 12;
    private static final int MOST_WORDS = 12;
    private static final int WORD_LETTERS = 3;
    private static final int BOX_SIDE = 3;
    private static final int BOX_BITS = 9;
    private static final int BOX_SHAPES = 512;
    private static final int MOST_WEIGHT = 99;
    private static final int MOST_CHANCE = 3;
    private static final int THOUSAND = 1000;
    private static final int MOST_LENGTH = 9999;
    private static final int MOST_SHORTER = 999;
    private static final int MOST_PARTS = 16;
    private static final int MOST_PART_HOURS = 50;
    private static final int MOST_WORTH = 999;
    private static final int ROLLS = 4;
    private static final int MOST_HOURS = 400;

    private final State now;
    private final State kept;
    private final Winding winding;
    private final Explainer explainer;
    private final Script script;
    private final Sight sight;
    private final Boxes boxes;

    public CharredRoll(int angles, int radii) {
        now = new State(angles, radii);
        kept = new State(angles, radii);
        winding = new Winding(now.scan);
        explainer = new Explainer(now.scan, now.walk, winding);
        script = new Script();
        sight = new Sight(now.scan, now.readers, winding);
        boxes = new Boxes(now, sight);
    }

    public boolean grey(int slice, int angle, int radius, int grey, int crack) {
        Scan scan = now.scan;
        int cell = scan.cell(slice, angle, radius);
        if (cell == NONE || !within(grey, 0, MOST_DARK) || !within(crack, 0, MOST_DARK)) {
            return false;
        }
        scan.grey[cell] = grey;
        scan.crack[cell] = crack;
        winding.forget(slice);
        return true;
    }

    public boolean column(int slice, int angle, long digits) {
        Scan scan = now.scan;
        int cell = scan.cell(slice, angle, 0);
        if (cell == NONE || digits < 0 || digits >= power(10, scan.radii)) {
            return false;
        }
        long rest = digits;
        for (int radius = 0; radius < scan.radii; radius++) {
            scan.grey[cell + radius] = (int) (rest % 10);
            rest /= 10;
        }
        winding.forget(slice);
        return true;
    }

    public boolean wound(int slice, int k) {
        if (!within(slice, 0, SLICES - 1) || !within(k, 1, MOST_TURNS)) {
            return false;
        }
        now.scan.turns[slice] = k;
        winding.forget(slice);
        return true;
    }

    public int pin(int slice, int place, int radius) {
        Scan scan = now.scan;
        if (!scan.mayHavePlace(slice, place) || !within(radius, 0, scan.radii - 1)) {
            return NONE;
        }
        int at = slice * MOST_PLACES + place;
        if (scan.pinned[at] != NONE || scan.pins >= MOST_PINS) {
            return NONE;
        }
        scan.pinned[at] = radius;
        scan.pins++;
        winding.forget(slice);
        return scan.pins;
    }

    public int best(int slice, int what) {
        if (!winding.settle(slice)) {
            return NONE;
        }
        if (what == 0) {
            return winding.fit[slice];
        }
        if (what == 1) {
            return winding.ways[slice];
        }
        if (now.scan.hasPlace(slice, what - 100)) {
            return winding.radiusAt(slice, what - 100);
        }
        if (now.scan.hasPlace(slice, what - 200)) {
            return winding.isSure(slice, what - 200) ? 1 : 0;
        }
        return NONE;
    }

    public int step(int radius) {
        Walk walk = now.walk;
        if (!within(radius, 0, now.scan.radii - 1) || walk.count >= MOST_STEPS) {
            return NONE;
        }
        walk.radius[walk.count] = radius;
        walk.count++;
        return walk.count;
    }

    public int unwalk() {
        int had = now.walk.count;
        now.walk.count = 0;
        return had;
    }

    public boolean jump(int cost) {
        if (!within(cost, 0, MOST_JUMP)) {
            return false;
        }
        now.walk.jump = cost;
        return true;
    }

    public int walked(int slice, int place, int what) {
        if (!now.scan.hasPlace(slice, place) || now.walk.count == 0 || !winding.settle(slice)) {
            return NO_WALK;
        }
        boolean ofStep = within(what, 100, 99 + now.walk.count);
        if (!ofStep && !within(what, 0, 1)) {
            return NO_WALK;
        }
        explainer.explain(slice, place);
        if (what == 0) {
            return explainer.leastCost();
        }
        if (what == 1) {
            return explainer.changes();
        }
        int at = explainer.placeOf(place, what - 100);
        return now.scan.hasPlace(slice, at) ? at : NO_WALK;
    }

    public int flat(int k, int i, int what) {
        if (!within(k, 1, MOST_TURNS) || !within(i, 0, k * now.scan.angles - 2) || !within(what, 0, 2)) {
            return NONE;
        }
        if (!winding.settleThoseWith(k)) {
            return NONE;
        }
        if (what == 0) {
            return winding.widthAt(k, i);
        }
        int stretch = 0;
        for (int place = what == 1 ? i : 0; place <= i; place++) {
            stretch += winding.stretchOf(k, place, winding.widthAt(k, place));
        }
        return stretch;
    }

    public int feed(int a, int b, int c, int d, int e) {
        if (script.size > MOST_BYTES - 20) {
            return NONE;
        }
        script.addFour(a);
        script.addFour(b);
        script.addFour(c);
        script.addFour(d);
        script.addFour(e);
        return script.size;
    }

    public int end(int n) {
        if (!within(n, 0, script.size)) {
            return NONE;
        }
        script.size = n;
        return n;
    }

    public int reader() {
        Readers readers = now.readers;
        int number = readers.count;
        if (number >= MOST_READERS) {
            return NONE;
        }
        boolean sound = script.readInto(readers.code, number * MOST_BYTES);
        // A text with a FAULT is used up too: the document lets the tape stay only where four readers are.
        script.size = 0;
        if (!sound) {
            return NONE;
        }
        readers.codeSize[number] = script.codeSize;
        readers.learnt[number] = 0;
        readers.count++;
        return number;
    }

    public int fault(int what) {
        if (what == 0) {
            return script.fault;
        }
        return what == 1 ? script.faultPlace : NONE;
    }

    public int ink(int reader, int slice, int place) {
        winding.settle(slice);
        return sight.inkAt(reader, slice, place);
    }

    public int bit(int slice, int place, boolean ink, int group) {
        Readers readers = now.readers;
        if (!now.scan.mayHavePlace(slice, place) || !within(group, 0, GROUPS - 1)) {
            return NONE;
        }
        int at = slice * MOST_PLACES + place;
        if (readers.bits[at] == NONE) {
            if (readers.bitCount >= MOST_BITS) {
                return NONE;
            }
            readers.bitCount++;
        }
        readers.bits[at] = group * 2 + (ink ? 1 : 0);
        return readers.bitCount;
    }

    public boolean learnt(int reader, int groups) {
        if (!now.readers.has(reader) || !within(groups, 0, (1 << GROUPS) - 1)) {
            return false;
        }
        now.readers.learnt[reader] = groups;
        return true;
    }

    public int right(int reader, boolean own, int what) {
        if (!now.readers.has(reader) || !within(what, 0, 1)) {
            return NONE;
        }
        int count = 0;
        for (int slice = 0; slice < SLICES; slice++) {
            int places = now.scan.places(slice);
            for (int place = 0; place < places; place++) {
                if (now.readers.bitIsOf(reader, slice, place, own)) {
                    // Without a SPIRAL there is no INK: the PLACE is there, but nothing tells its BIT.
                    winding.settle(slice);
                    boolean told = sight.inkAt(reader, slice, place) == now.readers.bitAt(slice, place) % 2;
                    count += what == 1 || told ? 1 : 0;
                }
            }
        }
        return count;
    }

    public int letter(int bits, int weight) {
        Lexicon lexicon = now.lexicon;
        int number = lexicon.letters;
        if (!within(bits, 0, BOX_SHAPES - 1) || !within(weight, 1, MOST_WEIGHT) || number >= MOST_LETTERS) {
            return NONE;
        }
        lexicon.letterBits[number] = bits;
        lexicon.letterWeight[number] = weight;
        lexicon.letters++;
        return number;
    }

    public int word(int one, int two, int three, int weight) {
        Lexicon lexicon = now.lexicon;
        int number = lexicon.words;
        if (!lexicon.canSpell(one, two, three) || !within(weight, 1, MOST_WEIGHT) || number >= MOST_WORDS) {
            return NONE;
        }
        if (lexicon.hasWord(one, two, three)) {
            return NONE;
        }
        lexicon.spelling[number * WORD_LETTERS] = one;
        lexicon.spelling[number * WORD_LETTERS + 1] = two;
        lexicon.spelling[number * WORD_LETTERS + 2] = three;
        lexicon.wordWeight[number] = weight;
        lexicon.words++;
        return number;
    }

    public boolean chances(int hit, int miss) {
        if (!within(hit, 1, MOST_CHANCE) || !within(miss, 1, MOST_CHANCE)) {
            return false;
        }
        now.lexicon.hit = hit;
        now.lexicon.miss = miss;
        return true;
    }

    public int box(int reader, int slice, int place, int what) {
        winding.settleRows(slice);
        int shape = boxes.shapeAt(reader, slice, place);
        Lexicon lexicon = now.lexicon;
        if (shape == NONE || lexicon.letters == 0) {
            return NONE;
        }
        if (what == 0) {
            return lexicon.letterByInk(shape);
        }
        if (what == 1) {
            return lexicon.letterOdds(lexicon.letterByInk(shape), shape);
        }
        return lexicon.hasLetter(what - 100) ? lexicon.like(what - 100, shape) : NONE;
    }

    public int joined(int reader, int slice, int place, int what) {
        winding.settleRows(slice);
        boxes.look(reader, slice, place);
        if (boxes.word == NONE) {
            return NONE;
        }
        if (what == 0) {
            return boxes.word;
        }
        return boxes.wordOdds(what == 1 ? boxes.word : what - 100);
    }

    public int seen(int q, int m) {
        if (!within(q, 0, 10) || !within(m, 0, BOX_BITS)) {
            return NONE;
        }
        long often = 0;
        for (int shape = 0; shape < BOX_SHAPES; shape++) {
            if (now.lexicon.someLike(shape, m)) {
                int dark = Integer.bitCount(shape);
                often += power(q, dark) * power(10 - q, BOX_BITS - dark);
            }
        }
        return (int) often;
    }

    public int printed(int readers, int slice, int place, int p, int m) {
        if (!within(readers, 0, (1 << now.readers.count) - 1)) {
            return NONE;
        }
        if (!within(p, 0, THOUSAND) || !within(m, 1, MOST_READERS)) {
            return NONE;
        }
        winding.settleRows(slice);
        boxes.clearVotes();
        for (int reader = 0; reader < now.readers.count; reader++) {
            if ((readers >> reader & 1) == 1) {
                boxes.look(reader, slice, place);
                boxes.vote(reader, slice, place, p);
            }
        }
        return boxes.mostVoted(m);
    }

    public int length(int outer, int low, int high, int least, boolean greatest) {
        if (!within(outer, 1, MOST_LENGTH) || !within(least, 1, outer)) {
            return NONE;
        }
        if (!within(high, 1, MOST_SHORTER) || !within(low, 1, high)) {
            return NONE;
        }
        int shorter = greatest ? low : high;
        int sum = 0;
        for (int turn = outer; turn >= least; turn -= shorter) {
            sum += turn;
        }
        return sum;
    }

    public int part(int hours, int worth, int roll) {
        Parts parts = now.parts;
        if (!within(hours, 1, MOST_PART_HOURS) || !within(worth, 1, MOST_WORTH) || !within(roll, 0, ROLLS - 1)) {
            return NONE;
        }
        if (parts.count >= MOST_PARTS) {
            return NONE;
        }
        parts.hours[parts.count] = hours;
        parts.worth[parts.count] = worth;
        parts.roll[parts.count] = roll;
        parts.count++;
        return parts.count;
    }

    public boolean fetch(int roll, int hours) {
        if (!within(roll, 0, ROLLS - 1) || !within(hours, 0, MOST_PART_HOURS)) {
            return false;
        }
        now.parts.fetchHours[roll] = hours;
        return true;
    }

    public int plan(int hours, int what) {
        if (!within(hours, 0, MOST_HOURS) || !within(what, 0, 2)) {
            return NONE;
        }
        Parts parts = now.parts;
        parts.fill(hours);
        int used = parts.hoursOfBest(hours);
        if (what == 2) {
            return used;
        }
        return what == 1 ? parts.worthAt(used) : parts.setAt(used);
    }

    public int image() {
        kept.copyFrom(now);
        return now.readers.bitCount;
    }

    public int back() {
        now.copyFrom(kept);
        for (int slice = 0; slice < SLICES; slice++) {
            winding.forget(slice);
        }
        return now.readers.bitCount;
    }

    public int about(int what) {
        if (within(what, 10, 9 + SLICES)) {
            return now.scan.turns[what - 10];
        }
        if (now.readers.has(what - 20)) {
            return now.readers.learnt[what - 20];
        }
        switch (what) {
            case 0: return now.scan.angles;
            case 1: return now.scan.radii;
            case 2: return now.readers.count;
            case 3: return now.scan.pins;
            case 4: return now.walk.count;
            case 5: return now.readers.bitCount;
            case 6: return now.lexicon.letters;
            case 7: return now.lexicon.words;
            case 8: return now.parts.count;
            case 9: return script.size;
            default: return NONE;
        }
    }

    private static boolean within(int value, int low, int high) {
        return value >= low && value <= high;
    }

    private static long power(int base, int times) {
        long product = 1;
        for (int i = 0; i < times; i++) {
            product *= base;
        }
        return product;
    }

    private static void copyRow(int[] from, int[] to) {
        System.arraycopy(from, 0, to, 0, Math.min(from.length, to.length));
    }

    /** All that an image holds: all but the tape and the latest FAULT. */
    private static final class State {
        final Scan scan;
        final Walk walk = new Walk();
        final Readers readers = new Readers();
        final Lexicon lexicon = new Lexicon();
        final Parts parts = new Parts();

        State(int angles, int radii) {
            scan = new Scan(angles, radii);
        }

        void copyFrom(State other) {
            scan.copyFrom(other.scan);
            walk.copyFrom(other.walk);
            readers.copyFrom(other.readers);
            lexicon.copyFrom(other.lexicon);
            parts.copyFrom(other.parts);
        }
    }

    /** What the slices show, and what was told of the sheet in them. */
    private static final class Scan {
        final int angles;
        final int radii;
        final int[] grey;
        final int[] crack;
        final int[] turns = new int[SLICES];
        final int[] pinned = new int[SLICES * MOST_PLACES];
        int pins;

        Scan(int angles, int radii) {
            this.angles = Math.max(FEWEST_ANGLES, Math.min(MOST_ANGLES, angles));
            this.radii = Math.max(FEWEST_RADII, Math.min(MOST_RADII, radii));
            grey = new int[SLICES * this.angles * this.radii];
            crack = new int[SLICES * this.angles * this.radii];
            Arrays.fill(turns, 2);
            Arrays.fill(pinned, NONE);
        }

        void copyFrom(Scan other) {
            copyRow(other.grey, grey);
            copyRow(other.crack, crack);
            copyRow(other.turns, turns);
            copyRow(other.pinned, pinned);
            pins = other.pins;
        }

        int cell(int slice, int angle, int radius) {
            boolean is = slice >= 0 && slice < SLICES && angle >= 0 && angle < angles && radius >= 0 && radius < radii;
            return is ? (slice * angles + angle) * radii + radius : NONE;
        }

        int greyAt(int slice, int angle, int radius) {
            int cell = cell(slice, angle, radius);
            return cell == NONE ? 0 : grey[cell];
        }

        int crackAt(int slice, int angle, int radius) {
            int cell = cell(slice, angle, radius);
            return cell == NONE ? 0 : crack[cell];
        }

        int places(int slice) {
            return slice >= 0 && slice < SLICES ? turns[slice] * angles : 0;
        }

        boolean hasPlace(int slice, int place) {
            return place >= 0 && place < places(slice);
        }

        /** Whether the slice would have the place if it were wound as often as may be. */
        boolean mayHavePlace(int slice, int place) {
            return within(slice, 0, SLICES - 1) && within(place, 0, MOST_TURNS * angles - 1);
        }

        int angleOf(int place) {
            return Math.floorMod(place, angles);
        }

        int turnOf(int place) {
            return Math.floorDiv(place, angles);
        }
    }

    /** The RADII somebody went along, and what going over to another TURN costs. */
    private static final class Walk {
        final int[] radius = new int[MOST_STEPS];
        int count;
        int jump = 5;

        void copyFrom(Walk other) {
            copyRow(other.radius, radius);
            count = other.count;
            jump = other.jump;
        }
    }

    /** READERS as code for Sight's stack machine, what they learnt from, and the BITS they are tried on. */
    private static final class Readers {
        final int[] code = new int[MOST_READERS * MOST_BYTES];
        final int[] codeSize = new int[MOST_READERS];
        final int[] learnt = new int[MOST_READERS];
        int count;
        /** By slice and place: twice the GROUP, and 1 more where there is ink; or NONE. */
        final int[] bits = new int[SLICES * MOST_PLACES];
        int bitCount;

        Readers() {
            Arrays.fill(bits, NONE);
        }

        void copyFrom(Readers other) {
            copyRow(other.code, code);
            copyRow(other.codeSize, codeSize);
            copyRow(other.learnt, learnt);
            count = other.count;
            copyRow(other.bits, bits);
            bitCount = other.bitCount;
        }

        boolean has(int reader) {
            return within(reader, 0, count - 1);
        }

        int bitAt(int slice, int place) {
            if (!within(slice, 0, SLICES - 1) || !within(place, 0, MOST_PLACES - 1)) {
                return NONE;
            }
            return bits[slice * MOST_PLACES + place];
        }

        /** Whether a BIT is there and of a GROUP that the READER learnt from (own) or of another. */
        boolean bitIsOf(int reader, int slice, int place, boolean own) {
            int bit = bitAt(slice, place);
            if (bit == NONE || !has(reader)) {
                return false;
            }
            return own == ((learnt[reader] >> (bit / 2) & 1) == 1);
        }
    }

    /** LETTERS, WORDS, and how likely INK hits or misses a bit of them. */
    private static final class Lexicon {
        final int[] letterBits = new int[MOST_LETTERS];
        final int[] letterWeight = new int[MOST_LETTERS];
        int letters;
        final int[] spelling = new int[MOST_WORDS * WORD_LETTERS];
        final int[] wordWeight = new int[MOST_WORDS];
        int words;
        int hit = 3;
        int miss = 1;

        void copyFrom(Lexicon other) {
            copyRow(other.letterBits, letterBits);
            copyRow(other.letterWeight, letterWeight);
            letters = other.letters;
            copyRow(other.spelling, spelling);
            copyRow(other.wordWeight, wordWeight);
            words = other.words;
            hit = other.hit;
            miss = other.miss;
        }

        boolean hasLetter(int letter) {
            return within(letter, 0, letters - 1);
        }

        boolean canSpell(int one, int two, int three) {
            if (!hasLetter(one) || (two == NONE && three != NONE)) {
                return false;
            }
            return (two == NONE || hasLetter(two)) && (three == NONE || hasLetter(three));
        }

        boolean hasWord(int one, int two, int three) {
            for (int word = 0; word < words; word++) {
                if (letterOf(word, 0) == one && letterOf(word, 1) == two && letterOf(word, 2) == three) {
                    return true;
                }
            }
            return false;
        }

        /** The LETTER of a WORD by its number from 0, NONE behind the WORD's end. */
        int letterOf(int word, int i) {
            if (!within(word, 0, words - 1) || !within(i, 0, WORD_LETTERS - 1)) {
                return NONE;
            }
            return spelling[word * WORD_LETTERS + i];
        }

        int like(int letter, int shape) {
            return hasLetter(letter) ? BOX_BITS - Integer.bitCount(letterBits[letter] ^ shape) : 0;
        }

        long chanceOf(int like, int bits) {
            return power(hit, like) * power(miss, bits - like);
        }

        long letterChance(int letter, int shape) {
            return hasLetter(letter) ? letterWeight[letter] * chanceOf(like(letter, shape), BOX_BITS) : 0;
        }

        int letterByInk(int shape) {
            int best = NONE;
            long most = 0;
            for (int letter = 0; letter < letters; letter++) {
                long chance = letterChance(letter, shape);
                if (chance > most) {
                    most = chance;
                    best = letter;
                }
            }
            return best;
        }

        int letterOdds(int letter, int shape) {
            long all = 0;
            for (int other = 0; other < letters; other++) {
                all += letterChance(other, shape);
            }
            return thousandths(letterChance(letter, shape), all);
        }

        boolean someLike(int shape, int least) {
            for (int letter = 0; letter < letters; letter++) {
                if (BOX_BITS - Integer.bitCount(letterBits[letter] ^ shape) >= least) {
                    return true;
                }
            }
            return false;
        }

        static int thousandths(long part, long all) {
            return all > 0 ? (int) (part * THOUSAND / all) : 0;
        }
    }

    /** PARTS to be seen at a ring, and the rows by which the best set of them is found. */
    private static final class Parts {
        private static final int SET_BITS = 16;
        private static final int SETS = 1 << SET_BITS;

        final int[] hours = new int[MOST_PARTS];
        final int[] worth = new int[MOST_PARTS];
        final int[] roll = new int[MOST_PARTS];
        int count;
        final int[] fetchHours = new int[ROLLS];
        /**
         * By hours: the best set that takes them, as WORTH times SETS less the set, or NONE. So the sum over
         * single parts, made as great as it may be, has the greatest WORTH and then the lowest set.
         */
        final int[] value = new int[MOST_HOURS + 1];
        final int[] fetched = new int[MOST_HOURS + 1];

        void copyFrom(Parts other) {
            copyRow(other.hours, hours);
            copyRow(other.worth, worth);
            copyRow(other.roll, roll);
            count = other.count;
            copyRow(other.fetchHours, fetchHours);
        }

        void fill(int limit) {
            int most = Math.min(limit, MOST_HOURS);
            Arrays.fill(value, NONE);
            value[0] = 0;
            for (int r = 0; r < ROLLS; r++) {
                // A roll that is fetched for nothing only wastes hours, so such a set is never the best.
                for (int h = 0; h <= most; h++) {
                    fetched[h] = h >= fetchHours[r] ? value[h - fetchHours[r]] : NONE;
                }
                for (int part = 0; part < count; part++) {
                    if (roll[part] == r) {
                        addFetched(part, most);
                    }
                }
                for (int h = 0; h <= most; h++) {
                    value[h] = Math.max(value[h], fetched[h]);
                }
            }
        }

        /** From the most hours down, so that no part is taken twice. */
        private void addFetched(int part, int most) {
            int gain = worth[part] * SETS - (1 << part);
            for (int h = most; h >= hours[part]; h--) {
                int before = fetched[h - hours[part]];
                if (before != NONE) {
                    fetched[h] = Math.max(fetched[h], before + gain);
                }
            }
        }

        int hoursOfBest(int limit) {
            int best = 0;
            for (int h = 1; h <= limit && h <= MOST_HOURS; h++) {
                if (worthAt(h) > worthAt(best)) {
                    best = h;
                }
            }
            return best;
        }

        int worthAt(int h) {
            return within(h, 0, MOST_HOURS) && value[h] != NONE ? (value[h] + SETS - 1) >> SET_BITS : NONE;
        }

        int setAt(int h) {
            return within(h, 0, MOST_HOURS) && value[h] != NONE ? worthAt(h) * SETS - value[h] : NONE;
        }
    }

    /**
     * The BEST SPIRALS of each slice, kept until something of the slice changes.
     *
     * A window is the radii of as many places as there are angles, one behind the other: all that the rest of a
     * spiral depends on. It is held as its first radius and a code of its changes (a digit 0, 1 or 2 for each, the
     * earliest the highest), so that windows in the order of their numbers are in the order of their radii.
     *
     * Of two BEST SPIRALS the lesser radius at each place makes a SPIRAL, and so does the greater, and the two have
     * together the FIT of both: so both are BEST. Therefore the one that is least at the earliest places is least at
     * all of them, likewise the greatest, and a place is SURE just where these two agree.
     */
    private static final class Winding {
        private static final int MOST_TOLD = 1000000;
        private static final int FIT_SHIFT = 20;
        private static final int WAYS_MASK = (1 << FIT_SHIFT) - 1;

        final Scan scan;
        final int codes;
        /** By code and place within a window: how far the radius is from the first one. */
        final int[] shape;
        /** By code: from the first radius to the last. */
        final int[] rise;
        /** By code: the change from the first radius to the second, and the code of the rest with a 0 behind it. */
        final int[] head;
        final int[] tail;
        /** Codes of windows that another place can follow: its radius must be above the window's first. */
        final int[] live;
        int liveCount;
        /** By places to come and window: the best FIT of those places and the ways to it in one number, 0 without. */
        final int[] ahead;
        /** By place and radius: what it adds to such a number; NONE where a PIN forbids it. */
        final int[] gain;
        int firstLow;
        int firstHigh;
        final boolean[] known = new boolean[SLICES];
        final int[] fit = new int[SLICES];
        final int[] ways = new int[SLICES];
        final int[] least = new int[SLICES * MOST_PLACES];
        final int[] greatest = new int[SLICES * MOST_PLACES];

        Winding(Scan scan) {
            this.scan = scan;
            codes = Math.max(1, (int) power(3, scan.angles - 1));
            shape = new int[codes * scan.angles];
            head = new int[codes];
            tail = new int[codes];
            rise = new int[codes];
            live = new int[codes];
            gain = new int[MOST_PLACES * scan.radii];
            ahead = new int[((MOST_TURNS - 1) * scan.angles + 1) * scan.radii * codes];
            // With no place to come every window has one way on, and nothing is added.
            for (int window = 0; window < scan.radii * codes; window++) {
                ahead[window] = 1;
            }
            for (int code = 0; code < codes; code++) {
                describe(code);
            }
        }

        private void describe(int code) {
            int start = code * scan.angles;
            int rest = code;
            int unit = codes;
            for (int i = 1; i < scan.angles; i++) {
                unit = Math.max(1, unit / 3);
                shape[start + i] = shape[start + i - 1] + rest / unit - 1;
                rest %= unit;
            }
            head[code] = shape[start + 1];
            tail[code] = code * 3 % codes;
            rise[code] = shape[start + scan.angles - 1];
            if (rise[code] >= 0) {
                live[liveCount] = code;
                liveCount++;
            }
        }

        void forget(int slice) {
            if (within(slice, 0, SLICES - 1)) {
                known[slice] = false;
            }
        }

        /** Finds the BEST of a slice if they aren't known; answers whether there are any. */
        boolean settle(int slice) {
            if (!within(slice, 0, SLICES - 1)) {
                return false;
            }
            if (!known[slice]) {
                known[slice] = true;
                int toCome = scan.places(slice) - scan.angles;
                fillGain(slice);
                for (int left = 1; left <= toCome; left++) {
                    fillAhead(slice, left);
                }
                weighAll(slice, toCome);
                if (ways[slice] > 0) {
                    trace(slice, toCome, false);
                    trace(slice, toCome, true);
                }
            }
            return ways[slice] > 0;
        }

        /** Settles the three slices of a box's rows. */
        void settleRows(int slice) {
            for (int row = 0; row < BOX_SIDE; row++) {
                settle(slice + row);
            }
        }

        /** Settles the slices that have k TURNS or more; whether there is one, and all have SPIRALS. */
        boolean settleThoseWith(int k) {
            boolean some = false;
            for (int slice = 0; slice < SLICES; slice++) {
                if (scan.turns[slice] >= k) {
                    if (!settle(slice)) {
                        return false;
                    }
                    some = true;
                }
            }
            return some;
        }

        int radiusAt(int slice, int place) {
            boolean is = slice >= 0 && slice < SLICES && place >= 0 && place < MOST_PLACES;
            return is ? least[slice * MOST_PLACES + place] : NONE;
        }

        boolean isSure(int slice, int place) {
            int at = slice * MOST_PLACES + place;
            return scan.hasPlace(slice, place) && least[at] == greatest[at];
        }

        private int lowAt(int place) {
            return scan.turnOf(place);
        }

        private int highAt(int slice, int place) {
            return scan.radii - scan.turns[slice] + scan.turnOf(place);
        }

        private void fillGain(int slice) {
            int places = scan.places(slice);
            for (int place = 0; place < places; place++) {
                int pinned = scan.pinned[slice * MOST_PLACES + place];
                int angle = scan.angleOf(place);
                for (int radius = 0; radius < scan.radii; radius++) {
                    boolean may = pinned == NONE || pinned == radius;
                    int add = scan.greyAt(slice, angle, radius) << FIT_SHIFT;
                    gain[place * scan.radii + radius] = may ? add : NONE;
                }
            }
        }

        private void fillAhead(int slice, int left) {
            int place = scan.places(slice) - left;
            int start = place - scan.angles;
            boundFirst(slice, start + 1);
            int high = highAt(slice, start);
            for (int radius = lowAt(start); radius <= high; radius++) {
                int row = (left * scan.radii + radius) * codes;
                for (int i = 0; i < liveCount; i++) {
                    ahead[row + live[i]] = bestOnward(left, place, radius, live[i]);
                }
            }
        }

        /** Between which radii a window that starts at a place may begin, by the TURNS within it and outside it. */
        private void boundFirst(int slice, int place) {
            firstLow = lowAt(place);
            firstHigh = highAt(slice, place);
        }

        private int bestOnward(int left, int place, int radius, int code) {
            int behind = windowBehind(left, radius, code);
            if (behind == NONE) {
                return 0;
            }
            int to = radius + rise[code] - 1;
            int best = 0;
            for (int change = leastChange(code); change < 3; change++) {
                best = better(best, onward(behind + change, place, to + change));
            }
            return best;
        }

        /** The place behind a window is above its first: by what the window rises, less than this can't be. */
        private int leastChange(int code) {
            return Math.max(0, 2 - rise[code]);
        }

        /** Where in ahead the windows are that follow a window, by their last change; NONE without. */
        private int windowBehind(int left, int radius, int code) {
            int first = radius + head[code];
            boolean is = first >= firstLow && first <= firstHigh;
            return is ? ((left - 1) * scan.radii + first) * codes + tail[code] : NONE;
        }

        /** The best of what is to come by way of a window whose last place has a radius, 0 without. */
        private int onward(int window, int place, int radius) {
            if (radius < 0 || radius >= scan.radii || ahead[window] == 0) {
                return 0;
            }
            int add = gain[place * scan.radii + radius];
            return add == NONE ? 0 : ahead[window] + add;
        }

        private static int better(int one, int two) {
            if (one == 0 || two == 0) {
                return one + two;
            }
            if (one >> FIT_SHIFT != two >> FIT_SHIFT) {
                return Math.max(one, two);
            }
            int both = Math.min(MOST_TOLD, (one & WAYS_MASK) + (two & WAYS_MASK));
            return (one >> FIT_SHIFT << FIT_SHIFT) + both;
        }

        /** How many windows begin no higher than PLACE 0 can be with all TURNS outside it. */
        private int firstWindows(int slice) {
            return (scan.radii - scan.turns[slice] + 1) * codes;
        }

        private void weighAll(int slice, int toCome) {
            int windows = firstWindows(slice);
            int best = 0;
            for (int window = 0; window < windows; window++) {
                best = better(best, withWindow(toCome, window));
            }
            ways[slice] = best & WAYS_MASK;
            fit[slice] = best >> FIT_SHIFT;
        }

        /** The best of all SPIRALS that begin with a window, 0 without. */
        private int withWindow(int toCome, int window) {
            int all = ahead[toCome * scan.radii * codes + window];
            int first = window / codes;
            int start = window % codes * scan.angles;
            for (int place = 0; place < scan.angles && all != 0; place++) {
                int radius = first + shape[start + place];
                if (radius < 0 || radius >= scan.radii || gain[place * scan.radii + radius] == NONE) {
                    return 0;
                }
                all += gain[place * scan.radii + radius];
            }
            return all;
        }

        /** Follows the best on from a window, always by the least radius or always by the greatest. */
        private void trace(int slice, int toCome, boolean fromAbove) {
            int[] row = fromAbove ? greatest : least;
            int start = slice * MOST_PLACES;
            int window = bestWindow(slice, toCome, fromAbove);
            int radius = window / codes;
            int code = window % codes;
            for (int place = 0; place < scan.angles; place++) {
                row[start + place] = radius + shape[code * scan.angles + place];
            }
            for (int left = toCome; left > 0; left--) {
                int place = scan.angles + toCome - left;
                boundFirst(slice, place - scan.angles + 1);
                int to = bestNext(left, place, radius, code, fromAbove);
                row[start + place] = to;
                int change = to - radius - rise[code] + 1;
                radius += head[code];
                code = tail[code] + change;
            }
        }

        private int bestWindow(int slice, int toCome, boolean fromAbove) {
            int windows = firstWindows(slice);
            for (int i = 0; i < windows; i++) {
                int window = fromAbove ? windows - 1 - i : i;
                int way = withWindow(toCome, window);
                if (way != 0 && way >> FIT_SHIFT == fit[slice]) {
                    return window;
                }
            }
            return 0;
        }

        /** The least radius, or the greatest, by which a window goes on at its best. */
        private int bestNext(int left, int place, int radius, int code, boolean fromAbove) {
            int fitToCome = ahead[(left * scan.radii + radius) * codes + code] >> FIT_SHIFT;
            int behind = windowBehind(left, radius, code);
            int last = radius + rise[code];
            int fewest = leastChange(code);
            for (int i = fewest; i < 3 && behind != NONE; i++) {
                int change = fromAbove ? 2 + fewest - i : i;
                int way = onward(behind + change, place, last + change - 1);
                if (way != 0 && way >> FIT_SHIFT == fitToCome) {
                    return last + change - 1;
                }
            }
            return last;
        }

        int widthAt(int k, int place) {
            int width = 0;
            int stretch = 0;
            for (int slice = 0; slice < SLICES; slice++) {
                if (scan.turns[slice] >= k) {
                    int length = radiusAt(slice, place) + 1;
                    int its = stretchOf(k, place, length);
                    if (width == 0 || its < stretch || (its == stretch && length < width)) {
                        width = length;
                        stretch = its;
                    }
                }
            }
            return width;
        }

        int stretchOf(int k, int place, int width) {
            int stretch = 0;
            for (int slice = 0; slice < SLICES; slice++) {
                if (scan.turns[slice] >= k) {
                    stretch += Math.abs(radiusAt(slice, place) + 1 - width);
                }
            }
            return stretch;
        }
    }

    /** Says of each step of THE WALK which TURN it was on. */
    private static final class Explainer {
        private static final int NO_PLACE_COST = 9;
        private static final int WIDTH = 2 * MOST_STEPS + 1;

        final Scan scan;
        final Walk walk;
        final Winding winding;
        /** By step and TURNS gone over: the least that it and the steps behind it cost. */
        final int[] least = new int[MOST_STEPS * WIDTH];
        final int[] over = new int[MOST_STEPS];

        Explainer(Scan scan, Walk walk, Winding winding) {
            this.scan = scan;
            this.walk = walk;
            this.winding = winding;
        }

        void explain(int slice, int place) {
            for (int step = walk.count - 1; step >= 0; step--) {
                // From step to step it's one TURN at most, so by this one no more than its number.
                for (int s = -step; s <= step; s++) {
                    int at = place + step + scan.angles * s;
                    int cost = scan.hasPlace(slice, at)
                        ? Math.abs(walk.radius[step] - winding.radiusAt(slice, at)) : NO_PLACE_COST;
                    least[index(step, s)] = cost + costOf(step, s, nextOver(step, s));
                }
            }
            over[0] = 0;
            for (int step = 1; step < walk.count; step++) {
                over[step] = nextOver(step - 1, over[step - 1]);
            }
        }

        private static int index(int step, int s) {
            return step * WIDTH + MOST_STEPS + s;
        }

        /** Where the next step is best, the least of like ones. */
        private int nextOver(int step, int s) {
            int best = s - 1;
            for (int next = s; next <= s + 1; next++) {
                if (costOf(step, s, next) < costOf(step, s, best)) {
                    best = next;
                }
            }
            return best;
        }

        private int costOf(int step, int s, int next) {
            if (step + 1 >= walk.count) {
                return 0;
            }
            return least[index(step + 1, next)] + (next == s ? 0 : walk.jump);
        }

        int leastCost() {
            return least[index(0, 0)];
        }

        int changes() {
            int count = 0;
            for (int step = 1; step < walk.count; step++) {
                if (over[step] != over[step - 1]) {
                    count++;
                }
            }
            return count;
        }

        int placeOf(int place, int step) {
            return within(step, 0, MOST_STEPS - 1) ? place + step + scan.angles * over[step] : NONE;
        }
    }

    /** The tape, and how its text becomes code: operands first, each operator behind what it works on. */
    private static final class Script {
        private static final int END = 0;
        private static final int BAD = 1;
        private static final int NUMBER = 2;
        private static final int NAME = 3;
        private static final int INK = 4;
        private static final int BARE = 5;
        private static final int OR = 6;
        private static final int AND = 7;
        private static final int NOT = 8;
        private static final int LESS = 9;
        private static final int LESS_OR_LIKE = 10;
        private static final int MORE = 11;
        private static final int MORE_OR_LIKE = 12;
        private static final int LIKE = 13;
        private static final int UNLIKE = 14;
        private static final int PLUS = 15;
        private static final int MINUS = 16;
        private static final int TIMES = 17;
        private static final int OVER = 18;
        private static final int OPEN = 19;
        private static final int CLOSE = 20;
        private static final int SEMICOLON = 21;
        private static final int NEGATE = 22;

        /** Code below FIRST_NAME is a NUMBER, below FIRST_DEED a NAME, the rest what is to be done. */
        private static final int FIRST_NAME = 10000;
        private static final int FIRST_DEED = 20000;

        /** The first five in the order of INK to NOT, then the NAMES. */
        private static final String KNOWN = "ink bare or and not grey crack radius turn angle slice in out sharp ";
        private static final int FIRST_KNOWN_NAME = 5;
        /** One sign each, in the order of their kinds from LESS on; a blank where the kind has two signs. */
        private static final String SIGNS = "< > =#+-*/();";

        private static final int MOST_NUMBER = 9999;
        private static final int MOST_OPEN = 8;
        private static final int MOST_CLAUSES = 10;
        private static final int STACK = 64;

        private static final int AT_CLAUSE = 0;
        private static final int AT_ASK = 1;
        private static final int AT_ONE = 2;
        private static final int BEHIND_ONE = 3;

        final int[] tape = new int[MOST_BYTES];
        int size;
        int fault = NONE;
        int faultPlace = NONE;
        int codeSize;
        private int kind;
        private int value;
        private int start;
        private int next;
        private int where;
        private boolean compared;
        private int clause;
        private int clauses;
        private int open;
        private int brackets;
        private final int[] stack = new int[STACK];
        private int depth;

        void addFour(int bytes) {
            for (int shift = 24; shift >= 0 && size < MOST_BYTES; shift -= 8) {
                tape[size] = bytes >> shift & 255;
                size++;
            }
        }

        /** Writes the text's code from a place of a row on; answers whether it has no FAULT. */
        boolean readInto(int[] code, int from) {
            faultPlace = NONE;
            codeSize = 0;
            next = 0;
            where = AT_CLAUSE;
            clauses = 0;
            open = 0;
            brackets = 0;
            depth = 0;
            // A token has a byte or more, and the end comes once.
            for (int tokens = 0; tokens <= MOST_BYTES; tokens++) {
                scanToken();
                fault = faultHere();
                if (fault != 0) {
                    faultPlace = start;
                    return false;
                }
                if (kind == END) {
                    return true;
                }
                take(code, from);
            }
            return true;
        }

        private int at(int place) {
            return place >= 0 && place < size && place < MOST_BYTES ? tape[place] : NONE;
        }

        private static boolean isBlank(int sign) {
            return sign == 32 || sign == 10;
        }

        private static boolean isLetter(int sign) {
            return within(sign, 'a', 'z') || within(sign, 'A', 'Z');
        }

        private static boolean isDigit(int sign) {
            return within(sign, '0', '9');
        }

        private void scanToken() {
            for (int i = 0; i < MOST_BYTES && isBlank(at(next)); i++) {
                next++;
            }
            start = next;
            int sign = at(start);
            if (sign == NONE) {
                kind = END;
            } else if (isLetter(sign)) {
                scanLetters();
            } else if (isDigit(sign)) {
                scanNumber();
            } else {
                scanSign(sign);
            }
        }

        private void scanLetters() {
            for (int i = 0; i < MOST_BYTES && isLetter(at(next)); i++) {
                next++;
            }
            int known = numberOfKnown();
            if (known == NONE) {
                kind = BAD;
            } else if (known < FIRST_KNOWN_NAME) {
                kind = INK + known;
            } else {
                kind = NAME;
                value = known - FIRST_KNOWN_NAME;
            }
        }

        private int numberOfKnown() {
            int number = 0;
            int from = 0;
            for (int i = 0; i < KNOWN.length(); i++) {
                if (KNOWN.charAt(i) == ' ') {
                    if (i - from == next - start && isSameAs(from)) {
                        return number;
                    }
                    number++;
                    from = i + 1;
                }
            }
            return NONE;
        }

        private boolean isSameAs(int from) {
            for (int i = start; i < next; i++) {
                int to = from + i - start;
                if (to >= KNOWN.length() || KNOWN.charAt(to) != at(i)) {
                    return false;
                }
            }
            return true;
        }

        private void scanNumber() {
            kind = NUMBER;
            value = 0;
            for (int i = 0; i < MOST_BYTES && isDigit(at(next)); i++) {
                // One above the greatest is enough to know, and a long row of digits can't run over.
                value = Math.min(MOST_NUMBER + 1, value * 10 + at(next) - '0');
                next++;
            }
        }

        private void scanSign(int sign) {
            next++;
            int number = SIGNS.indexOf((char) sign);
            kind = number == NONE ? BAD : LESS + number;
            if ((kind == LESS || kind == MORE) && at(next) == '=') {
                kind++;
                next++;
            }
        }

        private int faultHere() {
            if (!canStand()) {
                return 1;
            }
            if (kind == NUMBER && value > MOST_NUMBER) {
                return 2;
            }
            boolean opens = where != BEHIND_ONE && (kind == OPEN || kind == NOT || kind == MINUS);
            if (opens && open >= MOST_OPEN) {
                return 3;
            }
            if (where == AT_CLAUSE && kind != END && clauses >= MOST_CLAUSES) {
                return 4;
            }
            return 0;
        }

        private boolean canStand() {
            if (where == AT_CLAUSE) {
                return kind == INK || kind == BARE || kind == END;
            }
            if (where == AT_ASK && kind == NOT) {
                return true;
            }
            if (where != BEHIND_ONE) {
                return kind == NUMBER || kind == NAME || kind == OPEN || kind == MINUS;
            }
            if (within(kind, PLUS, OVER)) {
                return true;
            }
            if (brackets > 0) {
                return kind == CLOSE;
            }
            return compared ? kind == OR || kind == AND || kind == SEMICOLON : within(kind, LESS, UNLIKE);
        }

        private void take(int[] code, int from) {
            if (where == AT_CLAUSE) {
                clause = kind;
                clauses++;
                compared = false;
                where = AT_ASK;
            } else if (where == BEHIND_ONE) {
                takeOperator(code, from);
            } else {
                takeOperand(code, from);
            }
        }

        private void takeOperand(int[] code, int from) {
            if (kind == NUMBER) {
                emit(code, from, value);
                where = BEHIND_ONE;
            } else if (kind == NAME) {
                emit(code, from, FIRST_NAME + value);
                where = BEHIND_ONE;
            } else {
                push(kind == MINUS ? NEGATE : kind);
                open++;
                if (kind == OPEN) {
                    brackets++;
                }
                where = kind == NOT ? AT_ASK : AT_ONE;
            }
        }

        private void takeOperator(int[] code, int from) {
            unwind(code, from, rank(kind));
            if (kind == CLOSE) {
                depth = Math.max(0, depth - 1);
                brackets--;
                open--;
            } else if (kind == SEMICOLON) {
                emit(code, from, FIRST_DEED + clause);
                where = AT_CLAUSE;
            } else {
                push(kind);
                compared = within(kind, LESS, UNLIKE) || (compared && within(kind, PLUS, OVER));
                where = kind == OR || kind == AND ? AT_ASK : AT_ONE;
            }
        }

        /** Puts out what binds as strongly or more; a bracket holds back what is ahead of it. */
        private void unwind(int[] code, int from, int least) {
            for (int i = depth - 1; i >= 0 && i < STACK && stack[i] != OPEN && rank(stack[i]) >= least; i--) {
                if (stack[i] == NOT || stack[i] == NEGATE) {
                    open--;
                }
                emit(code, from, FIRST_DEED + stack[i]);
                depth = i;
            }
        }

        private static int rank(int operator) {
            switch (operator) {
                case OR: return 1;
                case AND: return 2;
                case NOT: return 3;
                case PLUS: return 5;
                case MINUS: return 5;
                case TIMES: return 6;
                case OVER: return 6;
                case NEGATE: return 7;
                default: return within(operator, LESS, UNLIKE) ? 4 : 0;
            }
        }

        private void push(int operator) {
            if (within(depth, 0, STACK - 1)) {
                stack[depth] = operator;
                depth++;
            }
        }

        private void emit(int[] code, int from, int what) {
            int to = from + codeSize;
            if (codeSize < MOST_BYTES && within(to, 0, code.length - 1)) {
                code[to] = what;
                codeSize++;
            }
        }
    }

    /** Runs a READER's code at a PLACE. The slice must be settled before. */
    private static final class Sight {
        private static final int MOST_NUMBER = 1000000;
        private static final int STACK = 64;

        final Scan scan;
        final Readers readers;
        final Winding winding;
        private final int[] stack = new int[STACK];
        private int depth;

        Sight(Scan scan, Readers readers, Winding winding) {
            this.scan = scan;
            this.readers = readers;
            this.winding = winding;
        }

        int inkAt(int reader, int slice, int place) {
            if (!readers.has(reader) || !scan.hasPlace(slice, place) || winding.ways[slice] == 0) {
                return NONE;
            }
            boolean ink = false;
            boolean bare = false;
            depth = 0;
            int from = reader * MOST_BYTES;
            int to = from + readers.codeSize[reader];
            for (int i = from; i < to; i++) {
                int what = readers.code[i];
                if (what < Script.FIRST_NAME) {
                    push(what);
                } else if (what < Script.FIRST_DEED) {
                    push(valueOf(what - Script.FIRST_NAME, slice, place));
                } else if (what == Script.FIRST_DEED + Script.INK) {
                    ink |= pop() != 0;
                } else if (what == Script.FIRST_DEED + Script.BARE) {
                    bare |= pop() != 0;
                } else {
                    work(what - Script.FIRST_DEED);
                }
            }
            return ink && !bare ? 1 : 0;
        }

        /** NAMES by their order in Script.KNOWN. */
        private int valueOf(int name, int slice, int place) {
            int radius = winding.radiusAt(slice, place);
            int angle = scan.angleOf(place);
            switch (name) {
                case 0: return scan.greyAt(slice, angle, radius);
                case 1: return scan.crackAt(slice, angle, radius);
                case 2: return radius;
                case 3: return scan.turnOf(place);
                case 4: return angle;
                case 5: return slice;
                case 6: return scan.greyAt(slice, angle, radius - 1);
                case 7: return scan.greyAt(slice, angle, radius + 1);
                default: return scan.crackAt(slice, angle, radius) - crackBefore(slice, place);
            }
        }

        private int crackBefore(int slice, int place) {
            if (place == 0) {
                return 0;
            }
            return scan.crackAt(slice, scan.angleOf(place - 1), winding.radiusAt(slice, place - 1));
        }

        private void work(int operator) {
            int right = pop();
            if (operator == Script.NOT) {
                push(1 - right);
            } else if (operator == Script.NEGATE) {
                push(-right);
            } else {
                int left = pop();
                push(within(operator, Script.PLUS, Script.OVER)
                    ? reckoned(operator, left, right) : answered(operator, left, right) ? 1 : 0);
            }
        }

        private static int reckoned(int operator, int left, int right) {
            long result = 0;
            if (operator == Script.PLUS) {
                result = (long) left + right;
            } else if (operator == Script.MINUS) {
                result = (long) left - right;
            } else if (operator == Script.TIMES) {
                result = (long) left * right;
            } else if (right != 0) {
                result = left / right;
            }
            return (int) Math.max(-MOST_NUMBER, Math.min(MOST_NUMBER, result));
        }

        private static boolean answered(int operator, int left, int right) {
            switch (operator) {
                case Script.OR: return left + right > 0;
                case Script.AND: return left + right > 1;
                case Script.LESS: return left < right;
                case Script.LESS_OR_LIKE: return left <= right;
                case Script.MORE: return left > right;
                case Script.MORE_OR_LIKE: return left >= right;
                case Script.LIKE: return left == right;
                default: return left != right;
            }
        }

        private void push(int value) {
            if (within(depth, 0, STACK - 1)) {
                stack[depth] = value;
                depth++;
            }
        }

        private int pop() {
            if (!within(depth, 1, STACK)) {
                return 0;
            }
            depth--;
            return stack[depth];
        }
    }

    /** What a READER's INK makes of BOXES one behind the other. The slices of the rows must be settled before. */
    private static final class Boxes {
        final Scan scan;
        final Readers readers;
        final Lexicon lexicon;
        final Sight sight;
        /** Of the latest look: INK of each BOX as nine bits, or NONE where there is no BOX. */
        private final int[] shape = new int[WORD_LETTERS];
        /** Of the latest look: by WORD, 0 of those that aren't asked. */
        private final long[] chance = new long[MOST_WORDS];
        private long allChances;
        int word = NONE;
        private final int[] votes = new int[MOST_WORDS];

        Boxes(State state, Sight sight) {
            scan = state.scan;
            readers = state.readers;
            lexicon = state.lexicon;
            this.sight = sight;
        }

        int shapeAt(int reader, int slice, int place) {
            if (!within(slice, 0, SLICES - BOX_SIDE)) {
                return NONE;
            }
            int bits = 0;
            for (int row = 0; row < BOX_SIDE; row++) {
                for (int column = 0; column < BOX_SIDE; column++) {
                    int ink = sight.inkAt(reader, slice + row, place + column);
                    if (ink == NONE) {
                        return NONE;
                    }
                    bits |= ink << (BOX_SIDE * row + column);
                }
            }
            return bits;
        }

        /** Finds THE WORD and all CHANCES from a PLACE on. */
        void look(int reader, int slice, int place) {
            word = NONE;
            allChances = 0;
            if (!scan.mayHavePlace(slice, place)) {
                return;
            }
            for (int i = 0; i < WORD_LETTERS; i++) {
                shape[i] = shapeAt(reader, slice, place + BOX_SIDE * i);
            }
            for (int other = 0; other < lexicon.words; other++) {
                chance[other] = wordChance(other);
                allChances += chance[other];
                if (chance[other] > 0 && (word == NONE || chance[other] > chance[word])) {
                    word = other;
                }
            }
        }

        private long wordChance(int other) {
            int like = 0;
            int bits = 0;
            for (int i = 0; i < WORD_LETTERS; i++) {
                int letter = lexicon.letterOf(other, i);
                if (letter != NONE) {
                    if (shape[i] == NONE) {
                        return 0;
                    }
                    like += lexicon.like(letter, shape[i]);
                    bits += BOX_BITS;
                }
            }
            int greater = Math.max(lexicon.hit, lexicon.miss);
            long missing = power(greater, WORD_LETTERS * BOX_BITS - bits);
            return lexicon.wordWeight[other] * lexicon.chanceOf(like, bits) * missing;
        }

        int wordOdds(int other) {
            if (!within(other, 0, lexicon.words - 1) || chance[other] == 0) {
                return NONE;
            }
            return Lexicon.thousandths(chance[other], allChances);
        }

        void clearVotes() {
            Arrays.fill(votes, 0);
        }

        /** Counts the READER whose look was the latest for its WORD, if it may count. */
        void vote(int reader, int slice, int place, int leastOdds) {
            if (word == NONE || wordOdds(word) < leastOdds) {
                return;
            }
            if (isByInkAlone() && isUnlearnt(reader, slice, place)) {
                votes[word]++;
            }
        }

        private boolean isByInkAlone() {
            for (int i = 0; i < WORD_LETTERS; i++) {
                int letter = lexicon.letterOf(word, i);
                if (letter != NONE && lexicon.letterByInk(shape[i]) != letter) {
                    return false;
                }
            }
            return true;
        }

        /** Whether no BIT under the WORD is of a GROUP that the READER learnt from. */
        private boolean isUnlearnt(int reader, int slice, int place) {
            int columns = 0;
            for (int i = 0; i < WORD_LETTERS; i++) {
                columns += lexicon.letterOf(word, i) == NONE ? 0 : BOX_SIDE;
            }
            for (int row = 0; row < BOX_SIDE; row++) {
                for (int column = 0; column < columns; column++) {
                    if (readers.bitIsOf(reader, slice + row, place + column, true)) {
                        return false;
                    }
                }
            }
            return true;
        }

        /** The WORD that most READERS count for, if so many or more do. */
        int mostVoted(int fewest) {
            int best = NONE;
            for (int other = 0; other < lexicon.words; other++) {
                if (votes[other] >= fewest && (best == NONE || votes[other] > votes[best])) {
                    best = other;
                }
            }
            return best;
        }
    }
}
