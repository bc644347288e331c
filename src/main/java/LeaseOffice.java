/**
 * A lease office for shared tools, as ../shared/DOC.md promises it.
 *
 * <p>The public methods only look at their arguments and hand the work on: {@link Office} holds all
 * that an image keeps and does what is done to it, {@link Thought} answers what changes nothing.
 * No method throws; every refusal is an answer.
 */
public final class LeaseOffice {

    public static final int BAD = -1, NOT = -2, FULL = -3, STATE = -5;
    public static final int VOID = -2000000000;

    private static final int NOTHING_THERE = -11;
    private static final int OTHER_SORT = -12;
    private static final int SIZE_BELOW_ZERO = -14;
    private static final int FAULT_OF_FORM = -1000;
    private static final int LINE_REFUSED = -2000;

    private static final int MAX_PERSONS = 12;
    private static final int MAX_TOOLS = 10;
    private static final int MAX_LINKS = 8;
    private static final int MAX_LOOKS = 6;
    private static final int MAX_CLAIMS = 8;
    private static final int MAX_PURSE = 9999;
    private static final int MAX_WEAR = 9;
    private static final int MAX_TRUST = 99;
    private static final int MAX_LEASE = 30;
    private static final int MAX_AHEAD = 60;
    private static final int MAX_TAPE = 120;
    // The shortest LINE has three bytes, and one ; stands between two.
    private static final int MAX_LINES = MAX_TAPE / 4 + 1;
    private static final int MAX_HOLDERS = 6;
    private static final int MAX_ROW = 60;
    private static final int LETTERS = 27;

    // Columns of LINKS, LOOKS and CLAIMS; those that the face tells have the number of its "what".
    private static final int LINK_PERSON = 0, LINK_SINCE = 1, LINK_TILL = 2, LINK_WIDTH = 3;
    private static final int LOOK_DAY = 0, LOOK_WEAR = 1, LOOK_LINKS = 2, LOOK_OPEN = 3, LOOK_WIDTH = 4;
    private static final int CLAIM_PERSON = 0, CLAIM_URGENCY = 1, CLAIM_DAYS = 2, CLAIM_DAY = 3, CLAIM_WIDTH = 4;
    private static final int LINE_KIND = 0, LINE_PARTS = 1, LINE_WIDTH = 5;

    private static final int WHY_NOT_THERE = 1, WHY_PURSE = 2, WHY_OVERDUE = 3;
    private static final int WHY_WISHES = 4, WHY_SWAP = 5, WHY_PASS = 6;

    private static final int EMPTY = 0, HOLDS_PERSON = 1, HOLDS_TOOL = 2, HOLDS_ROW = 3;

    private final Thought thought = new Thought();
    private final Office office = thought.office;
    private final Office imageKept = new Office();
    private final Office aheadOfText = new Office();
    private final TextReader reader = new TextReader();
    private final Table tape = reader.tape;
    private final Holder[] holders = new Holder[MAX_HOLDERS];
    private final Holder noHolder = new Holder();
    private boolean hasImage;

    public LeaseOffice() {
        for (int i = 0; i < holders.length; i++) {
            holders[i] = new Holder();
        }
    }

    // ---- persons, tools

    public int person(int name, int purse) {
        return office.enterPerson(name, purse);
    }

    public int tool(int worth) {
        return office.enterTool(worth);
    }

    public int wish(int person, int tool, int v) {
        return office.setWish(person, tool, v);
    }

    public int fund(int person, int n) {
        return office.bringCoins(person, n);
    }

    public int personOf(int person, int what) {
        if (!office.isPerson(person)) {
            return BAD;
        }
        Person p = office.personAt(person);
        switch (what) {
            case 0: return p.name;
            case 1: return p.purse;
            case 2: return p.trust;
            case 3: return p.late;
            case 4: return p.debt;
            case 5: return office.toolsWith(person);
            case 6: return office.placeInRank(person);
            case 7: return office.claimsOf(person);
            default: return BAD;
        }
    }

    public int toolOf(int tool, int what) {
        if (!office.isTool(tool)) {
            return BAD;
        }
        Tool t = office.toolAt(tool);
        switch (what) {
            case 0: return t.worth;
            case 1: return t.wear;
            case 2: return t.holder;
            case 3: return t.since;
            case 4: return t.due;
            case 5: return t.deposit;
            case 6: return t.claims.size();
            case 7: return t.links.size();
            case 8: return t.looks.size();
            default: return BAD;
        }
    }

    public int link(int tool, int i, int what) {
        return office.isTool(tool) ? entryOf(office.toolAt(tool).links, i, what, LINK_TILL) : BAD;
    }

    public int seen(int tool, int i, int what) {
        return office.isTool(tool) ? entryOf(office.toolAt(tool).looks, i, what, LOOK_WEAR) : BAD;
    }

    public int claimOf(int tool, int i, int what) {
        return office.isTool(tool) ? entryOf(office.toolAt(tool).claims, i, what, CLAIM_DAY) : BAD;
    }

    public int ranked(int k) {
        return k < 0 ? BAD : office.personAtRank(k);
    }

    private static int entryOf(Table table, int i, int what, int lastWhat) {
        if (i < 0 || what < 0 || what > lastWhat) {
            return BAD;
        }
        return i < table.size() ? table.cell(i, what) : NOT;
    }

    // ---- what is done

    public int lease(int person, int tool, int days) {
        return office.leaseTo(person, tool, days);
    }

    public int claim(int person, int tool, int ud) {
        return ud < 0 ? BAD : office.enterClaim(person, tool, ud / 100, ud % 100);
    }

    public int waive(int person, int tool) {
        return office.dropClaim(person, tool);
    }

    public int returned(int tool) {
        return office.giveBack(tool);
    }

    public int pass(int tool, int person) {
        return office.passOn(tool, person);
    }

    public int swap(int tool, int other) {
        return office.exchange(tool, other);
    }

    public int use(int tool, int n) {
        return office.wearDown(tool, n);
    }

    public int look(int tool) {
        return office.lookAt(tool);
    }

    public int days(int n) {
        return office.passDays(n);
    }

    public int why(int i) {
        if (i < 0) {
            return BAD;
        }
        int found = i == 0 ? office.why : i == 1 ? office.whyBehind : 0;
        return found == 0 ? NOT : found;
    }

    // ---- in thought

    public int told(int tool, int what) {
        if (!office.isTool(tool)) {
            return BAD;
        }
        switch (what) {
            case 0: return thought.nextOf(tool);
            case 1: return thought.suspectsOf(tool);
            case 2: return office.toolAt(tool).feeOn(office.day);
            default: return BAD;
        }
    }

    public int share(int tool, int person) {
        if (!office.isTool(tool) || !office.isPerson(person)) {
            return BAD;
        }
        return thought.shareOf(tool, person);
    }

    public int swaps(int what) {
        switch (what) {
            case 0: return thought.swapsNow();
            case 1: return thought.bestSwap();
            case 2: return thought.ringsNow();
            case 3: return thought.allCoins();
            default: return BAD;
        }
    }

    public int ahead(int n, int what) {
        if (n < 0 || n > MAX_AHEAD) {
            return BAD;
        }
        switch (what) {
            case 0: return thought.toolsDueBefore(office.day + n);
            case 1: return thought.feesOn(office.day + n);
            default: return BAD;
        }
    }

    public int judge(int holder, int tool) {
        if (!isHolder(holder) || tool != -1 && !office.isTool(tool)) {
            return BAD;
        }
        Holder h = holderAt(holder);
        if (h.sort == EMPTY) {
            return NOTHING_THERE;
        }
        if (h.sort != HOLDS_ROW) {
            return OTHER_SORT;
        }
        int listed = tool == -1 ? office.personCount : office.toolAt(tool).claims.size();
        int toldCount = h.items.size();
        for (int i = 0; i < toldCount; i++) {
            if (i >= listed || h.items.cell(i, 0) != listedAt(tool, i)) {
                return i;
            }
        }
        return toldCount < listed ? toldCount : NOT;
    }

    private int listedAt(int tool, int i) {
        return tool == -1 ? office.personAtRank(i) : office.toolAt(tool).claims.cell(i, CLAIM_PERSON);
    }

    // ---- texts, images, holders

    public int feed(int letter) {
        if (letter < 0 || letter > 255) {
            return BAD;
        }
        if (tape.size() >= MAX_TAPE) {
            return FULL;
        }
        tape.setCell(tape.append(), 0, letter);
        return tape.size();
    }

    // A LINE that succeeds sets no REFUSAL, and one that doesn't is undone with all the others:
    // so no LINE ever changes THE REFUSAL.
    public int script() {
        boolean wellFormed = reader.readText();
        tape.clear();
        if (!wellFormed) {
            return FAULT_OF_FORM - reader.place;
        }
        aheadOfText.copyFrom(office);
        for (int i = 0; i < reader.lines.size(); i++) {
            if (doLine(reader.lines, i) < 0) {
                office.copyFrom(aheadOfText);
                return LINE_REFUSED - i;
            }
        }
        return reader.lines.size();
    }

    private int doLine(Table lines, int i) {
        int a = lines.cell(i, LINE_PARTS);
        int b = lines.cell(i, LINE_PARTS + 1);
        int c = lines.cell(i, LINE_PARTS + 2);
        int d = lines.cell(i, LINE_PARTS + 3);
        switch (lines.cell(i, LINE_KIND)) {
            case 'p': return office.enterPerson(a, b);
            case 't': return office.enterTool(a);
            case 'w': return office.setWish(a, b, c);
            case 'l': return office.leaseTo(a, b, c);
            case 'c': return office.enterClaim(a, b, c, d);
            case 'r': return office.giveBack(a);
            case 'g': return office.passOn(a, b);
            case 's': return office.exchange(a, b);
            case 'u': return office.wearDown(a, b);
            case 'k': return office.lookAt(a);
            case 'd': return office.passDays(a);
            default: return BAD;
        }
    }

    public int image() {
        imageKept.copyFrom(office);
        hasImage = true;
        return office.day;
    }

    public int back() {
        if (!hasImage) {
            return STATE;
        }
        office.copyFrom(imageKept);
        for (int i = 0; i < MAX_HOLDERS; i++) {
            Holder h = holderAt(i);
            boolean personGone = h.sort == HOLDS_PERSON && !office.isPerson(h.number);
            boolean toolGone = h.sort == HOLDS_TOOL && !office.isTool(h.number);
            if (personGone || toolGone) {
                h.take(EMPTY, 0);
            }
        }
        return office.day;
    }

    public int hold(int holder, int what, int number) {
        boolean canHold = what == EMPTY
                || what == HOLDS_PERSON && office.isPerson(number)
                || what == HOLDS_TOOL && office.isTool(number);
        if (!isHolder(holder) || !canHold) {
            return BAD;
        }
        holderAt(holder).take(what, number);
        return 1;
    }

    public int row(int holder, int n) {
        if (!isHolder(holder) || n > MAX_ROW) {
            return BAD;
        }
        if (n < 0) {
            return SIZE_BELOW_ZERO;
        }
        holderAt(holder).takeRow(n);
        return 1;
    }

    public int put(int holder, int i, int v) {
        Holder h = holderAt(holder);
        if (h.sort != HOLDS_ROW || i < 0 || i >= h.items.size()) {
            return VOID;
        }
        int before = h.items.cell(i, 0);
        h.items.setCell(i, 0, v);
        return before;
    }

    public int tells(int holder, int as) {
        if (!isHolder(holder) || as < 0 || as > 3) {
            return BAD;
        }
        Holder h = holderAt(holder);
        if (h.sort == EMPTY) {
            return NOTHING_THERE;
        }
        if (as == 0 && h.sort != HOLDS_ROW) {
            return h.number;
        }
        if (as == 1 && h.sort == HOLDS_PERSON) {
            return office.personAt(h.number).trust;
        }
        if (as == 2 && h.sort == HOLDS_TOOL) {
            return office.toolAt(h.number).worth;
        }
        if (as == 3 && h.sort == HOLDS_TOOL && office.toolAt(h.number).isLeased()) {
            return office.toolAt(h.number).holder;
        }
        return OTHER_SORT;
    }

    public int count(int what) {
        switch (what) {
            case 0: return office.personCount;
            case 1: return office.toolCount;
            case 2: return thought.leasedCount();
            case 3: return thought.claimCount();
            case 4: return office.day;
            case 5: return office.till;
            case 6: return thought.allDebts();
            case 7: return tape.size();
            case 8: return holdersInUse();
            default: return BAD;
        }
    }

    private int holdersInUse() {
        int found = 0;
        for (int i = 0; i < MAX_HOLDERS; i++) {
            if (holderAt(i).sort != EMPTY) {
                found++;
            }
        }
        return found;
    }

    private static boolean isHolder(int holder) {
        return holder >= 0 && holder < MAX_HOLDERS;
    }

    private Holder holderAt(int holder) {
        return holder >= 0 && holder < holders.length ? holders[holder] : noHolder;
    }

    // ---- what stands behind

    /**
     * Rows of numbers, all of one width, in an order of their own. Its memory is made once, since
     * all calls of a run live in one room. A place that is not there reads 0 and takes nothing, so
     * no index can ever leave the array.
     */
    private static final class Table {
        private final int rows;
        private final int width;
        private final int[] cells;
        private int size;

        Table(int rows, int width) {
            this.rows = rows;
            this.width = width;
            this.cells = new int[Math.max(rows * width, 0)];
        }

        int size() {
            return size;
        }

        void clear() {
            size = 0;
        }

        int cell(int row, int column) {
            if (row < 0 || row >= size || column < 0 || column >= width) {
                return 0;
            }
            int at = row * width + column;
            return at >= 0 && at < cells.length ? cells[at] : 0;
        }

        void setCell(int row, int column, int v) {
            if (row < 0 || row >= size || column < 0 || column >= width) {
                return;
            }
            int at = row * width + column;
            if (at >= 0 && at < cells.length) {
                cells[at] = v;
            }
        }

        /** A new last row of zeros: its number. A full table lets its first row go for it. */
        int append() {
            if (size < rows) {
                size++;
            } else {
                for (int to = 0; to < cells.length; to++) {
                    int from = to + width;
                    if (from >= 0 && from < cells.length) {
                        cells[to] = cells[from];
                    }
                }
            }
            for (int at = (size - 1) * width; at >= 0 && at < size * width && at < cells.length; at++) {
                cells[at] = 0;
            }
            return size - 1;
        }

        /** A new row whose cells are free to be set, in front of the one that is there now. */
        void insert(int row) {
            append();
            int first = Math.max(row, 0) * width;
            for (int to = cells.length - 1; to >= 0 && to < cells.length; to--) {
                int from = to - width;
                if (from >= first && from >= 0 && from < cells.length) {
                    cells[to] = cells[from];
                }
            }
        }

        void remove(int row) {
            if (row < 0 || row >= size) {
                return;
            }
            for (int to = row * width; to >= 0 && to < cells.length; to++) {
                int from = to + width;
                if (from >= 0 && from < cells.length) {
                    cells[to] = cells[from];
                }
            }
            size--;
        }

        void copyFrom(Table other) {
            size = Math.min(other.size, rows);
            for (int row = 0; row < size; row++) {
                for (int column = 0; column < width; column++) {
                    setCell(row, column, other.cell(row, column));
                }
            }
        }
    }

    private static final class Person {
        int name;
        int purse;
        int trust;
        int late;
        int debt;
        private final int[] wishes = new int[MAX_TOOLS];

        void comeIn(int newName, int newPurse) {
            name = newName;
            purse = newPurse;
            trust = 50;
            late = 0;
            debt = 0;
            for (int i = 0; i < wishes.length; i++) {
                wishes[i] = 0;
            }
        }

        int wishOf(int tool) {
            return tool >= 0 && tool < wishes.length ? wishes[tool] : 0;
        }

        void setWishOf(int tool, int v) {
            if (tool >= 0 && tool < wishes.length) {
                wishes[tool] = v;
            }
        }

        boolean goesAheadOf(Person other) {
            if (trust != other.trust) {
                return trust > other.trust;
            }
            if (late != other.late) {
                return late < other.late;
            }
            return nameAsThreeLetters() < other.nameAsThreeLetters();
        }

        // Blanks (0) behind a short name put a beginning of another one ahead of that.
        private int nameAsThreeLetters() {
            if (name < LETTERS) {
                return name * LETTERS * LETTERS;
            }
            return name < LETTERS * LETTERS ? name * LETTERS : name;
        }

        void gainTrust(int n) {
            trust = Math.min(trust + n, MAX_TRUST);
        }

        void loseTrust(int n) {
            trust = Math.max(trust - n, 0);
        }

        /** Pays what the purse has, and owes the rest: what was paid. */
        int payOrOwe(int coins) {
            int paid = Math.min(purse, coins);
            purse -= paid;
            debt += coins - paid;
            return paid;
        }

        void copyFrom(Person other) {
            name = other.name;
            purse = other.purse;
            trust = other.trust;
            late = other.late;
            debt = other.debt;
            for (int i = 0; i < MAX_TOOLS; i++) {
                setWishOf(i, other.wishOf(i));
            }
        }
    }

    private static final class Tool {
        int worth;
        int wear;
        int holder;
        int since;
        int due;
        int deposit;
        int linksEver;
        final Table links = new Table(MAX_LINKS, LINK_WIDTH);
        final Table looks = new Table(MAX_LOOKS, LOOK_WIDTH);
        final Table claims = new Table(MAX_CLAIMS, CLAIM_WIDTH);

        void comeIn(int newWorth, int day) {
            worth = newWorth;
            wear = 0;
            linksEver = 0;
            links.clear();
            looks.clear();
            claims.clear();
            stayAtOffice();
            noteLook(day);
        }

        boolean isLeased() {
            return holder >= 0;
        }

        void stayAtOffice() {
            holder = NOT;
            since = NOT;
            due = NOT;
            deposit = 0;
        }

        void goTo(int person, int day) {
            holder = person;
            since = day;
            int last = links.append();
            links.setCell(last, LINK_PERSON, person);
            links.setCell(last, LINK_SINCE, day);
            links.setCell(last, LINK_TILL, NOT);
            linksEver++;
        }

        void endLink(int day) {
            links.setCell(links.size() - 1, LINK_TILL, day);
        }

        // Whether the latest LINK is open is kept, too: it may have ended by the next LOOK.
        void noteLook(int day) {
            int last = looks.append();
            looks.setCell(last, LOOK_DAY, day);
            looks.setCell(last, LOOK_WEAR, wear);
            looks.setCell(last, LOOK_LINKS, linksEver);
            looks.setCell(last, LOOK_OPEN, isLeased() ? 1 : 0);
        }

        int wearSinceLook() {
            return wear - looks.cell(looks.size() - 1, LOOK_WEAR);
        }

        /** What a LOOK would cost now. */
        int cost() {
            return worth * Math.max(wearSinceLook(), 0) / 9;
        }

        int daysLateOn(int day) {
            return isLeased() ? Math.max(day - due, 0) : 0;
        }

        int feeOn(int day) {
            return Math.min(daysLateOn(day) * (1 + worth / 10), deposit);
        }

        /** The place of a PERSON's CLAIM on the LIST, below 0 if there is none. */
        int placeOfClaim(int person) {
            for (int i = 0; i < claims.size(); i++) {
                if (claims.cell(i, CLAIM_PERSON) == person) {
                    return i;
                }
            }
            return -1;
        }

        int addClaim(int person, int urgency, int days, int day) {
            int place = 0;
            while (place < claims.size() && claimGoesAhead(place, urgency, day, person)) {
                place++;
            }
            claims.insert(place);
            claims.setCell(place, CLAIM_PERSON, person);
            claims.setCell(place, CLAIM_URGENCY, urgency);
            claims.setCell(place, CLAIM_DAYS, days);
            claims.setCell(place, CLAIM_DAY, day);
            return place;
        }

        private boolean claimGoesAhead(int place, int urgency, int day, int person) {
            if (claims.cell(place, CLAIM_URGENCY) != urgency) {
                return claims.cell(place, CLAIM_URGENCY) > urgency;
            }
            if (claims.cell(place, CLAIM_DAY) != day) {
                return claims.cell(place, CLAIM_DAY) < day;
            }
            return claims.cell(place, CLAIM_PERSON) < person;
        }

        void copyFrom(Tool other) {
            worth = other.worth;
            wear = other.wear;
            holder = other.holder;
            since = other.since;
            due = other.due;
            deposit = other.deposit;
            linksEver = other.linksEver;
            links.copyFrom(other.links);
            looks.copyFrom(other.looks);
            claims.copyFrom(other.claims);
        }
    }

    /** Who would be BLAMED by a LOOK at a TOOL now, each once, in the order of their LINKS. */
    private static final class Blame {
        private final Table blamed = new Table(MAX_PERSONS, 1);
        private int bits;

        void findFor(Tool tool) {
            blamed.clear();
            bits = 0;
            int lookAhead = tool.looks.size() - 1;
            // The LINK that was the latest at that LOOK counts, too, if it was open then.
            int firstEver = tool.looks.cell(lookAhead, LOOK_LINKS) - tool.looks.cell(lookAhead, LOOK_OPEN);
            int linksGone = tool.linksEver - tool.links.size();
            for (int i = Math.max(firstEver - linksGone, 0); i < tool.links.size(); i++) {
                addOnce(tool.links.cell(i, LINK_PERSON));
            }
        }

        private void addOnce(int person) {
            if (!isBlamed(person)) {
                bits |= 1 << person;
                blamed.setCell(blamed.append(), 0, person);
            }
        }

        boolean isBlamed(int person) {
            return (bits >> person & 1) == 1;
        }

        int bits() {
            return bits;
        }

        int size() {
            return blamed.size();
        }

        int personAt(int i) {
            return blamed.cell(i, 0);
        }

        int shareOf(int person, int cost) {
            int sharers = blamed.size();
            if (sharers <= 0 || !isBlamed(person)) {
                return 0;
            }
            int each = cost / sharers;
            return person == personAt(0) ? cost - each * (sharers - 1) : each;
        }
    }

    /** All that an IMAGE keeps, and what is done to it. Its answers are those of the face. */
    private static final class Office {
        private final Person[] persons = new Person[MAX_PERSONS];
        private final Tool[] tools = new Tool[MAX_TOOLS];
        private final Person nobody = new Person();
        private final Tool noTool = new Tool();
        private final Blame blame = new Blame();
        int personCount;
        int toolCount;
        int day;
        int till;
        int why;
        int whyBehind;

        Office() {
            for (int i = 0; i < persons.length; i++) {
                persons[i] = new Person();
            }
            for (int i = 0; i < tools.length; i++) {
                tools[i] = new Tool();
            }
        }

        boolean isPerson(int person) {
            return person >= 0 && person < personCount;
        }

        boolean isTool(int tool) {
            return tool >= 0 && tool < toolCount;
        }

        Person personAt(int person) {
            return person >= 0 && person < persons.length ? persons[person] : nobody;
        }

        Tool toolAt(int tool) {
            return tool >= 0 && tool < tools.length ? tools[tool] : noTool;
        }

        void copyFrom(Office other) {
            personCount = other.personCount;
            toolCount = other.toolCount;
            day = other.day;
            till = other.till;
            why = other.why;
            whyBehind = other.whyBehind;
            for (int i = 0; i < personCount; i++) {
                personAt(i).copyFrom(other.personAt(i));
            }
            for (int i = 0; i < toolCount; i++) {
                toolAt(i).copyFrom(other.toolAt(i));
            }
        }

        int enterPerson(int name, int purse) {
            if (!isName(name) || purse < 0 || purse > MAX_PURSE) {
                return BAD;
            }
            for (int i = 0; i < personCount; i++) {
                if (personAt(i).name == name) {
                    return STATE;
                }
            }
            if (personCount >= MAX_PERSONS) {
                return FULL;
            }
            personAt(personCount).comeIn(name, purse);
            personCount++;
            return personCount - 1;
        }

        private static boolean isName(int name) {
            if (name < 1 || name >= LETTERS * LETTERS * LETTERS) {
                return false;
            }
            for (int rest = name; rest > 0; rest /= LETTERS) {
                if (rest % LETTERS == 0) {
                    return false;
                }
            }
            return true;
        }

        int enterTool(int worth) {
            if (worth < 1 || worth > 99) {
                return BAD;
            }
            if (toolCount >= MAX_TOOLS) {
                return FULL;
            }
            toolAt(toolCount).comeIn(worth, day);
            toolCount++;
            return toolCount - 1;
        }

        int setWish(int person, int tool, int v) {
            if (!isPerson(person) || !isTool(tool) || v < 0 || v > 9) {
                return BAD;
            }
            int before = personAt(person).wishOf(tool);
            personAt(person).setWishOf(tool, v);
            return before;
        }

        int bringCoins(int person, int n) {
            if (!isPerson(person) || n < 1 || n > 999) {
                return BAD;
            }
            Person p = personAt(person);
            int forDebt = Math.min(p.debt, n);
            int purseThen = p.purse + n - forDebt;
            if (purseThen > MAX_PURSE) {
                return STATE;
            }
            p.debt -= forDebt;
            p.purse = purseThen;
            till += forDebt;
            return purseThen;
        }

        int toolsWith(int person) {
            int found = 0;
            for (int i = 0; i < toolCount; i++) {
                if (toolAt(i).holder == person) {
                    found++;
                }
            }
            return found;
        }

        int claimsOf(int person) {
            int found = 0;
            for (int i = 0; i < toolCount; i++) {
                if (toolAt(i).placeOfClaim(person) >= 0) {
                    found++;
                }
            }
            return found;
        }

        int placeInRank(int person) {
            int place = 0;
            for (int i = 0; i < personCount; i++) {
                if (personAt(i).goesAheadOf(personAt(person))) {
                    place++;
                }
            }
            return place;
        }

        int personAtRank(int k) {
            for (int i = 0; i < personCount; i++) {
                if (placeInRank(i) == k) {
                    return i;
                }
            }
            return NOT;
        }

        private int refuse(int cause, int causeBehind) {
            why = cause;
            whyBehind = causeBehind;
            return STATE;
        }

        int leaseTo(int person, int tool, int days) {
            if (!isPerson(person) || !isTool(tool) || days < 1 || days > MAX_LEASE) {
                return BAD;
            }
            Tool t = toolAt(tool);
            if (t.isLeased() || t.wear >= MAX_WEAR) {
                return refuse(WHY_NOT_THERE, 0);
            }
            if (personAt(person).purse < t.worth) {
                return refuse(WHY_PURSE, 0);
            }
            handOut(t, person, days);
            return t.due;
        }

        private void handOut(Tool t, int person, int days) {
            personAt(person).purse -= t.worth;
            t.deposit = t.worth;
            t.due = day + days;
            t.goTo(person, day);
        }

        /** The place on the LIST of the CLAIM that the TOOL would go to by OFFERED, below 0 if none. */
        int claimServed(Tool t) {
            if (t.wear >= MAX_WEAR) {
                return -1;
            }
            for (int i = 0; i < t.claims.size(); i++) {
                if (personAt(t.claims.cell(i, CLAIM_PERSON)).purse >= t.worth) {
                    return i;
                }
            }
            return -1;
        }

        private void offer(Tool t) {
            int place = claimServed(t);
            if (place >= 0) {
                int person = t.claims.cell(place, CLAIM_PERSON);
                int days = t.claims.cell(place, CLAIM_DAYS);
                t.claims.remove(place);
                handOut(t, person, days);
            }
        }

        int enterClaim(int person, int tool, int urgency, int days) {
            boolean known = isPerson(person) && isTool(tool);
            if (!known || urgency < 0 || urgency > 9 || days < 1 || days > MAX_LEASE) {
                return BAD;
            }
            Tool t = toolAt(tool);
            if (t.placeOfClaim(person) >= 0 || t.holder == person) {
                return STATE;
            }
            if (t.claims.size() >= MAX_CLAIMS) {
                return FULL;
            }
            return t.addClaim(person, urgency, days, day);
        }

        int dropClaim(int person, int tool) {
            if (!isPerson(person) || !isTool(tool)) {
                return BAD;
            }
            Tool t = toolAt(tool);
            int place = t.placeOfClaim(person);
            if (place < 0) {
                return NOT;
            }
            t.claims.remove(place);
            return t.claims.size();
        }

        int giveBack(int tool) {
            if (!isTool(tool)) {
                return BAD;
            }
            Tool t = toolAt(tool);
            if (!t.isLeased()) {
                return STATE;
            }
            lookAt(tool);
            Person p = personAt(t.holder);
            int fee = t.feeOn(day);
            till += fee;
            p.purse += t.deposit - fee;
            if (t.daysLateOn(day) > 0) {
                p.late++;
                p.loseTrust(5);
            } else {
                p.gainTrust(1);
            }
            t.endLink(day);
            t.stayAtOffice();
            offer(t);
            return fee;
        }

        int passOn(int tool, int person) {
            if (!isTool(tool) || !isPerson(person) || toolAt(tool).holder == person) {
                return BAD;
            }
            Tool t = toolAt(tool);
            if (!t.isLeased()) {
                return STATE;
            }
            int cause = whyNotPassed(t, personAt(person).purse);
            if (cause != 0) {
                return refuse(WHY_PASS, cause);
            }
            handOver(t, person);
            return 1;
        }

        /** Why a TOOL can't be PASSED to one with that PURSE; 0 if it can. */
        private int whyNotPassed(Tool t, int purse) {
            if (day > t.due) {
                return WHY_OVERDUE;
            }
            return purse < t.deposit ? WHY_PURSE : 0;
        }

        private void handOver(Tool t, int person) {
            personAt(person).purse -= t.deposit;
            personAt(t.holder).purse += t.deposit;
            t.endLink(day);
            t.goTo(person, day);
        }

        int exchange(int tool, int other) {
            if (!haveTwoHolders(tool, other)) {
                return BAD;
            }
            int gain = gainOf(tool, other);
            if (gain == 0) {
                return refuse(WHY_WISHES, 0);
            }
            int cause = whyNotBothPassed(tool, other);
            if (cause != 0) {
                return refuse(WHY_SWAP, cause);
            }
            int firstHolder = toolAt(tool).holder;
            handOver(toolAt(tool), toolAt(other).holder);
            handOver(toolAt(other), firstHolder);
            return gain;
        }

        boolean haveTwoHolders(int tool, int other) {
            return isTool(tool) && isTool(other) && toolAt(tool).isLeased() && toolAt(other).isLeased()
                    && toolAt(tool).holder != toolAt(other).holder;
        }

        /** Why the first can't be PASSED and then the second, to each other's HOLDERS; 0 if they can. */
        int whyNotBothPassed(int first, int second) {
            Tool a = toolAt(first);
            Tool b = toolAt(second);
            int cause = whyNotPassed(a, personAt(b.holder).purse);
            // By then the first one's HOLDER has its DEPOSIT.
            return cause != 0 ? cause : whyNotPassed(b, personAt(a.holder).purse + a.deposit);
        }

        /** How much more the HOLDER of a TOOL wishes another one. */
        int riseOf(int tool, int other) {
            Person p = personAt(toolAt(tool).holder);
            return p.wishOf(other) - p.wishOf(tool);
        }

        /** GAIN of two TOOLS; 0 if not each HOLDER wishes the other one more. */
        int gainOf(int tool, int other) {
            int rise = riseOf(tool, other);
            int riseBack = riseOf(other, tool);
            return rise > 0 && riseBack > 0 ? rise + riseBack : 0;
        }

        int wearDown(int tool, int n) {
            if (!isTool(tool) || n < 1 || n > 9) {
                return BAD;
            }
            Tool t = toolAt(tool);
            if (!t.isLeased()) {
                return STATE;
            }
            t.wear = Math.min(t.wear + n, MAX_WEAR);
            return t.wear;
        }

        int lookAt(int tool) {
            if (!isTool(tool)) {
                return BAD;
            }
            Tool t = toolAt(tool);
            int moreWear = t.wearSinceLook();
            int cost = t.cost();
            blame.findFor(t);
            t.noteLook(day);
            if (moreWear <= 0) {
                return 0;
            }
            for (int i = 0; i < blame.size(); i++) {
                Person p = personAt(blame.personAt(i));
                till += p.payOrOwe(blame.shareOf(blame.personAt(i), cost));
                p.loseTrust(moreWear);
            }
            return blame.size();
        }

        int passDays(int n) {
            if (n < 1 || n > 99) {
                return BAD;
            }
            day += n;
            return day;
        }
    }

    /** The OFFICE as it is now, and what is asked of it in thought: nothing in it changes. */
    private static final class Thought {
        final Office office = new Office();
        private final Blame blame = new Blame();

        int nextOf(int tool) {
            Tool t = office.toolAt(tool);
            int place = office.claimServed(t);
            return place < 0 ? NOT : t.claims.cell(place, CLAIM_PERSON);
        }

        int suspectsOf(int tool) {
            blame.findFor(office.toolAt(tool));
            return blame.bits();
        }

        int shareOf(int tool, int person) {
            Tool t = office.toolAt(tool);
            blame.findFor(t);
            return blame.shareOf(person, t.cost());
        }

        private boolean canBeSwapped(int tool, int other) {
            return office.haveTwoHolders(tool, other) && office.gainOf(tool, other) > 0
                    && office.whyNotBothPassed(tool, other) == 0;
        }

        int swapsNow() {
            int found = 0;
            for (int t = 0; t < office.toolCount; t++) {
                for (int u = t + 1; u < office.toolCount; u++) {
                    if (canBeSwapped(t, u)) {
                        found++;
                    }
                }
            }
            return found;
        }

        int bestSwap() {
            int best = NOT;
            int bestGain = 0;
            for (int t = 0; t < office.toolCount; t++) {
                for (int u = t + 1; u < office.toolCount; u++) {
                    if (office.gainOf(t, u) > bestGain && canBeSwapped(t, u)) {
                        bestGain = office.gainOf(t, u);
                        best = 10 * t + u;
                    }
                }
            }
            return best;
        }

        int ringsNow() {
            int found = 0;
            for (int t = 0; t < office.toolCount; t++) {
                for (int u = t + 1; u < office.toolCount; u++) {
                    if (wishesMore(t, u)) {
                        found += ringsOver(t, u);
                    }
                }
            }
            return found;
        }

        private int ringsOver(int t, int u) {
            int found = 0;
            for (int v = t + 1; v < office.toolCount; v++) {
                if (wishesMore(u, v) && wishesMore(v, t)) {
                    found++;
                }
            }
            return found;
        }

        private boolean wishesMore(int tool, int other) {
            return office.haveTwoHolders(tool, other) && office.riseOf(tool, other) > 0;
        }

        int allCoins() {
            int coins = office.till;
            for (int i = 0; i < office.personCount; i++) {
                coins += office.personAt(i).purse;
            }
            for (int i = 0; i < office.toolCount; i++) {
                coins += office.toolAt(i).deposit;
            }
            return coins;
        }

        int allDebts() {
            int coins = 0;
            for (int i = 0; i < office.personCount; i++) {
                coins += office.personAt(i).debt;
            }
            return coins;
        }

        int toolsDueBefore(int day) {
            int found = 0;
            for (int i = 0; i < office.toolCount; i++) {
                if (office.toolAt(i).daysLateOn(day) > 0) {
                    found++;
                }
            }
            return found;
        }

        int feesOn(int day) {
            int coins = 0;
            for (int i = 0; i < office.toolCount; i++) {
                coins += office.toolAt(i).feeOn(day);
            }
            return coins;
        }

        int leasedCount() {
            int found = 0;
            for (int i = 0; i < office.toolCount; i++) {
                if (office.toolAt(i).isLeased()) {
                    found++;
                }
            }
            return found;
        }

        int claimCount() {
            int found = 0;
            for (int i = 0; i < office.toolCount; i++) {
                found += office.toolAt(i).claims.size();
            }
            return found;
        }
    }

    /**
     * THE TAPE, and what reads the TEXT on it into lines, a row each. No reading step goes past a
     * byte that does not fit, so where reading ends is the place of the fault.
     */
    private static final class TextReader {
        final Table tape = new Table(MAX_TAPE, 1);
        final Table lines = new Table(MAX_LINES, LINE_WIDTH);
        int place;

        /** Whether all of the TAPE is a TEXT. */
        boolean readText() {
            lines.clear();
            place = 0;
            boolean fits = readLine();
            for (int i = 0; i < MAX_TAPE && fits && place < tape.size(); i++) {
                fits = readByte(';') && readLine();
            }
            return fits;
        }

        private boolean readLine() {
            int kind = nextByte();
            int parts = partsOf(kind);
            if (parts == 0) {
                return false;
            }
            place++;
            int line = lines.append();
            lines.setCell(line, LINE_KIND, kind);
            for (int i = 0; i < parts; i++) {
                boolean isName = kind == 'p' && i == 0;
                if (!readByte(' ') || !readPart(line, LINE_PARTS + i, isName)) {
                    return false;
                }
            }
            return true;
        }

        /** How many parts stand behind the letter of a LINE; 0 if it is none. */
        private static int partsOf(int kind) {
            switch (kind) {
                case 'c': return 4;
                case 'w': case 'l': return 3;
                case 'p': case 'g': case 's': case 'u': return 2;
                case 't': case 'r': case 'k': case 'd': return 1;
                default: return 0;
            }
        }

        private boolean readByte(int wanted) {
            if (nextByte() != wanted) {
                return false;
            }
            place++;
            return true;
        }

        /** A NAME or a number of one to three signs. */
        private boolean readPart(int line, int column, boolean isName) {
            int first = isName ? 'a' : '0';
            int last = isName ? 'z' : '9';
            int value = 0;
            int signs = 0;
            while (signs < 3 && nextByte() >= first && nextByte() <= last) {
                value = isName ? value * LETTERS + nextByte() - 'a' + 1 : value * 10 + nextByte() - '0';
                signs++;
                place++;
            }
            lines.setCell(line, column, value);
            return signs > 0;
        }

        /** The byte at the place; below 0 behind the end. */
        private int nextByte() {
            return place < tape.size() ? tape.cell(place, 0) : -1;
        }
    }

    /** One of the six places that hold nothing, a PERSON, a TOOL or a ROW. */
    private static final class Holder {
        int sort = EMPTY;
        int number;
        final Table items = new Table(MAX_ROW, 1);

        void take(int newSort, int newNumber) {
            sort = newSort;
            number = newNumber;
        }

        void takeRow(int n) {
            take(HOLDS_ROW, 0);
            items.clear();
            for (int i = 0; i < n; i++) {
                items.append();
            }
        }
    }
}
