/** A simulation of a store that can lie to its users, who check what it shows them. */
public final class ForkedStore {
    public static final int UNKNOWN = -10001;
    public static final int BAD_VALUE = -10002;
    public static final int NOT_POSSIBLE = -10003;
    public static final int FULL = -10004;
    public static final int NONE = -10005;

    private static final int LEAST_USERS = 2;
    private static final int MOST_USERS = 5;
    private static final int FIRST_USERS = 3;
    private static final int MOST_VIEWS = 6;
    private static final int MOST_REMEMBERED = 5;
    private static final int MOST_LETTERS = 4;
    private static final int MOST_SIGNS = 60;
    private static final int SIGNS_OF_COMMAND = 3;
    private static final int MOST_VALUE = 1000;
    private static final int FAULT_BASE = -100;
    private static final int NO_FAULT = -1;

    private static final int NO_ALARM = 0;
    private static final int OWN_ENTRY_CHANGED = 1;
    private static final int ENTRIES_FORKED = 2;
    private static final int KNOWN_NOT_SHOWN = 3;
    private static final int LETTER_FORKED = 4;
    private static final int PROOF_RECEIVED = 5;

    private static final int EQUAL = 0;
    private static final int AT_MOST = -1;
    private static final int AT_LEAST = 1;
    private static final int INCOMPARABLE = 2;

    private static final int NOTHING_NEW = 0;
    private static final int LEARNT = 1;
    private static final int FORK_FOUND = 2;

    /** The depth of a proof that a user found. */
    private static final int FOUND = 0;

    private final Member[] members = new Member[MOST_USERS];
    private final View[] views = new View[MOST_VIEWS];
    private final Script script = new Script();
    private int users = FIRST_USERS;
    private int viewCount = 1;

    public ForkedStore() {
        for (int i = 0; i < MOST_USERS; i++) {
            members[i] = new Member();
        }
        for (int i = 0; i < MOST_VIEWS; i++) {
            views[i] = new View();
        }
    }

    public int reset(int users) {
        if (users < LEAST_USERS || users > MOST_USERS) {
            return BAD_VALUE;
        }
        int previous = this.users;
        this.users = users;
        viewCount = 1;
        for (int i = 0; i < MOST_USERS; i++) {
            members[i].clear();
        }
        views[0].clear();
        return previous;
    }

    // ---- operations of users

    public int write(int user, int value) {
        if (!isUser(user)) {
            return UNKNOWN;
        }
        if (value < -MOST_VALUE || value > MOST_VALUE) {
            return BAD_VALUE;
        }
        if (members[user].alarm != NO_ALARM) {
            return NOT_POSSIBLE;
        }
        int alarm = operate(user);
        if (alarm == NO_ALARM) {
            entriesShownTo(user).contents[user] = value;
        }
        return alarm;
    }

    public int read(int user, int owner) {
        if (!isUser(user) || !isUser(owner)) {
            return UNKNOWN;
        }
        if (members[user].alarm != NO_ALARM) {
            return NOT_POSSIBLE;
        }
        int alarm = operate(user);
        if (alarm == NO_ALARM) {
            members[user].hear(entriesShownTo(user).contents[owner]);
        }
        return alarm;
    }

    public int lastRead(int user) {
        if (!isUser(user)) {
            return UNKNOWN;
        }
        if (!members[user].hasHeard) {
            return NONE;
        }
        return members[user].heard;
    }

    public int check(int user) {
        if (!isUser(user)) {
            return UNKNOWN;
        }
        if (members[user].alarm != NO_ALARM) {
            return NOT_POSSIBLE;
        }
        return alarmAhead(user);
    }

    // ---- what the store does

    public int fork(int view, int users) {
        if (!isView(view)) {
            return UNKNOWN;
        }
        if (users == 0 || (users & ~usersAttachedTo(view)) != 0) {
            return BAD_VALUE;
        }
        if (viewCount >= MOST_VIEWS) {
            return FULL;
        }
        int made = viewCount;
        viewCount++;
        views[made].copyFrom(views[view]);
        for (int i = 0; i < this.users; i++) {
            if (contains(users, i)) {
                members[i].view = made;
            }
        }
        return made;
    }

    public int attach(int user, int view) {
        if (!isUser(user) || !isView(view)) {
            return UNKNOWN;
        }
        int previous = members[user].view;
        members[user].view = view;
        return previous;
    }

    public int rollBack(int view, int operations) {
        if (!isView(view)) {
            return UNKNOWN;
        }
        if (operations < 1 || operations > MOST_REMEMBERED) {
            return BAD_VALUE;
        }
        if (operations > views[view].remembered) {
            return NONE;
        }
        views[view].takeBack(operations);
        return views[view].remembered;
    }

    public int mix(int view, int other) {
        if (!isView(view) || !isView(other)) {
            return UNKNOWN;
        }
        if (view == other) {
            return BAD_VALUE;
        }
        for (int i = 0; i < users; i++) {
            if (members[i].view == other) {
                members[i].view = view;
            }
        }
        views[view].forget();
        return views[view].entries.replaceByLater(views[other].entries);
    }

    // ---- letters and proofs

    public int sendLetter(int user, int to) {
        if (!isUser(user) || !isUser(to)) {
            return UNKNOWN;
        }
        if (user == to) {
            return BAD_VALUE;
        }
        Box box = members[to].box;
        if (box.size >= MOST_LETTERS) {
            return FULL;
        }
        box.put(members[user].known);
        members[user].sent += users;
        return box.size;
    }

    public int readLetter(int user) {
        if (!isUser(user)) {
            return UNKNOWN;
        }
        Box box = members[user].box;
        if (box.size == 0) {
            return NONE;
        }
        int result = members[user].learn(box.letters[0]);
        box.dropFirst();
        return result;
    }

    public int loseLetter(int user) {
        if (!isUser(user)) {
            return UNKNOWN;
        }
        Box box = members[user].box;
        if (box.size == 0) {
            return NONE;
        }
        box.dropFirst();
        return box.size;
    }

    public int passProof(int user, int to) {
        if (!isUser(user) || !isUser(to)) {
            return UNKNOWN;
        }
        if (user == to) {
            return BAD_VALUE;
        }
        Proof proof = members[user].proof;
        if (!proof.isHeld) {
            return NOT_POSSIBLE;
        }
        Member receiver = members[to];
        boolean isNews = receiver.alarm == NO_ALARM;
        receiver.proof.keepFirst(proof.first, proof.second, proof.depth + 1);
        receiver.raise(PROOF_RECEIVED);
        members[user].sent += 2 * users;
        return oneIf(isNews);
    }

    // ---- what is told

    public int count(int what) {
        switch (what) {
            case 0: return users;
            case 1: return viewCount;
            case 2: return usersWithAlarm();
            case 3: return usersWithProof();
            case 4: return operationsOfAll();
            case 5: return lettersInBoxes();
            default: return BAD_VALUE;
        }
    }

    public int user(int user, int what) {
        if (!isUser(user)) {
            return UNKNOWN;
        }
        Member member = members[user];
        switch (what) {
            case 0: return member.view;
            case 1: return member.alarm;
            case 2: return oneIf(member.proof.isHeld);
            case 3: return member.box.size;
            case 4: return member.operations;
            case 5: return member.shown;
            case 6: return member.sent;
            case 7: return member.proof.isHeld ? member.proof.depth : NONE;
            default: return BAD_VALUE;
        }
    }

    public int vector(int user, int kind, int place) {
        if (!isUser(user) || !isUser(place)) {
            return UNKNOWN;
        }
        if (kind < 0 || kind > 3) {
            return BAD_VALUE;
        }
        Member member = members[user];
        if (kind == 0) {
            return member.signed.numbers[place];
        }
        if (kind == 1) {
            return member.known.numbers[place];
        }
        if (!member.proof.isHeld) {
            return NONE;
        }
        return kind == 2 ? member.proof.first.numbers[place] : member.proof.second.numbers[place];
    }

    public int entry(int view, int entry, int place) {
        if (!isView(view) || !isUser(entry) || !isUser(place)) {
            return UNKNOWN;
        }
        return views[view].entries.vectors[entry].numbers[place];
    }

    public int content(int view, int owner) {
        if (!isView(view) || !isUser(owner)) {
            return UNKNOWN;
        }
        return views[view].entries.contents[owner];
    }

    public int view(int view, int what) {
        if (!isView(view)) {
            return UNKNOWN;
        }
        Entries entries = views[view].entries;
        switch (what) {
            case 0: return usersAttachedTo(view);
            case 1: return views[view].remembered;
            case 2: return oneIf(!entries.areForked());
            case 3: return entries.areForked() ? NONE : entries.greatest().sum();
            default: return BAD_VALUE;
        }
    }

    public int compare(int user, int other, boolean known) {
        if (!isUser(user) || !isUser(other)) {
            return UNKNOWN;
        }
        if (known) {
            return members[user].known.relationTo(members[other].known);
        }
        return members[user].signed.relationTo(members[other].signed);
    }

    public int forkedPairs() {
        int pairs = 0;
        for (int lower = 0; lower < users; lower++) {
            for (int higher = lower + 1; higher < users; higher++) {
                if (knowForkedVectors(lower, higher)) {
                    pairs++;
                }
            }
        }
        return pairs;
    }

    public int tellingLetter() {
        for (int sender = 0; sender < users; sender++) {
            for (int receiver = 0; receiver < users; receiver++) {
                if (members[receiver].alarm == NO_ALARM && knowForkedVectors(sender, receiver)) {
                    return 10 * sender + receiver;
                }
            }
        }
        return NONE;
    }

    public int unaware() {
        int found = 0;
        for (int i = 0; i < users; i++) {
            if (isUnaware(i)) {
                found |= 1 << i;
            }
        }
        return found;
    }

    // ---- script

    public int type(char character) {
        if (script.length >= MOST_SIGNS) {
            return FULL;
        }
        script.append(character);
        return script.length;
    }

    public int clearText() {
        int previous = script.length;
        script.length = 0;
        return previous;
    }

    public int run() {
        int fault = script.fault();
        if (fault != NO_FAULT) {
            return FAULT_BASE - fault;
        }
        int done = 0;
        for (int at = 0; at + SIGNS_OF_COMMAND <= script.length; at += SIGNS_OF_COMMAND) {
            if (!carryOut(script.signs[at], script.digit(at + 1), script.digit(at + 2))) {
                return done;
            }
            done++;
        }
        return done;
    }

    // ---- what the methods of the face share

    private boolean isUser(int number) {
        return number >= 0 && number < users;
    }

    private boolean isView(int number) {
        return number >= 0 && number < viewCount;
    }

    private static boolean contains(int set, int number) {
        return (set >> number & 1) == 1;
    }

    private static int oneIf(boolean condition) {
        return condition ? 1 : 0;
    }

    private Entries entriesShownTo(int user) {
        return views[members[user].view].entries;
    }

    private int usersAttachedTo(int view) {
        int found = 0;
        for (int i = 0; i < users; i++) {
            if (members[i].view == view) {
                found |= 1 << i;
            }
        }
        return found;
    }

    /** The alarm that an operation of the user would raise at present. */
    private int alarmAhead(int user) {
        Member member = members[user];
        Entries entries = entriesShownTo(user);
        if (entries.vectors[user].relationTo(member.signed) != EQUAL) {
            return OWN_ENTRY_CHANGED;
        }
        if (entries.areForked()) {
            return ENTRIES_FORKED;
        }
        if (!member.known.isAtMost(entries.greatest())) {
            return KNOWN_NOT_SHOWN;
        }
        return NO_ALARM;
    }

    /** Lets a user check what it is shown, and sign if that raises no alarm, which is answered. */
    private int operate(int user) {
        Member member = members[user];
        View view = views[member.view];
        member.shown += users * users;
        int alarm = alarmAhead(user);
        if (alarm == NO_ALARM) {
            view.remember();
            member.sign(user, view.entries);
            member.sent += users;
            return NO_ALARM;
        }
        member.raise(alarm);
        if (alarm == ENTRIES_FORKED) {
            view.entries.prove(member.proof);
        }
        if (alarm == KNOWN_NOT_SHOWN) {
            member.proveLack(view.entries.greatest());
        }
        return alarm;
    }

    private int usersWithAlarm() {
        int found = 0;
        for (int i = 0; i < users; i++) {
            found += oneIf(members[i].alarm != NO_ALARM);
        }
        return found;
    }

    private int usersWithProof() {
        int found = 0;
        for (int i = 0; i < users; i++) {
            found += oneIf(members[i].proof.isHeld);
        }
        return found;
    }

    private int operationsOfAll() {
        int sum = 0;
        for (int i = 0; i < users; i++) {
            sum += members[i].operations;
        }
        return sum;
    }

    private int lettersInBoxes() {
        int sum = 0;
        for (int i = 0; i < users; i++) {
            sum += members[i].box.size;
        }
        return sum;
    }

    private boolean knowForkedVectors(int one, int other) {
        return members[one].known.relationTo(members[other].known) == INCOMPARABLE;
    }

    private boolean isUnaware(int user) {
        if (members[user].alarm != NO_ALARM || alarmAhead(user) != NO_ALARM) {
            return false;
        }
        for (int i = 0; i < users; i++) {
            if (knowForkedVectors(user, i)) {
                return false;
            }
        }
        return true;
    }

    /** Carries out a command of the script; false if its method reports an error. */
    private boolean carryOut(int letter, int x, int y) {
        switch (letter) {
            case 'w': return write(x, y) >= 0;
            case 'r': return read(x, y) >= 0;
            case 's': return sendLetter(x, y) >= 0;
            case 'g': return readLetters(x, y);
            case 'm': return attach(x, y) >= 0;
            default: return false;
        }
    }

    private boolean readLetters(int user, int letters) {
        for (int i = 0; i < letters; i++) {
            if (readLetter(user) < 0) {
                return false;
            }
        }
        // With no letter to read, nothing above has looked at the user.
        return isUser(user);
    }

    /** A version vector. Places behind the last user stay 0, so that no comparison notices them. */
    private static final class VersionVector {
        final int[] numbers = new int[MOST_USERS];

        void clear() {
            for (int i = 0; i < MOST_USERS; i++) {
                numbers[i] = 0;
            }
        }

        void copyFrom(VersionVector other) {
            for (int i = 0; i < MOST_USERS; i++) {
                numbers[i] = other.numbers[i];
            }
        }

        boolean isAtMost(VersionVector other) {
            for (int i = 0; i < MOST_USERS; i++) {
                if (numbers[i] > other.numbers[i]) {
                    return false;
                }
            }
            return true;
        }

        int relationTo(VersionVector other) {
            boolean isLess = false;
            boolean isGreater = false;
            for (int i = 0; i < MOST_USERS; i++) {
                if (numbers[i] < other.numbers[i]) {
                    isLess = true;
                }
                if (numbers[i] > other.numbers[i]) {
                    isGreater = true;
                }
            }
            if (isLess) {
                return isGreater ? INCOMPARABLE : AT_MOST;
            }
            return isGreater ? AT_LEAST : EQUAL;
        }

        int sum() {
            int sum = 0;
            for (int i = 0; i < MOST_USERS; i++) {
                sum += numbers[i];
            }
            return sum;
        }
    }

    /** The entries of a view. Those behind the last user stay zeros, which are at most any vector. */
    private static final class Entries {
        final VersionVector[] vectors = new VersionVector[MOST_USERS];
        final int[] contents = new int[MOST_USERS];

        Entries() {
            for (int i = 0; i < MOST_USERS; i++) {
                vectors[i] = new VersionVector();
            }
        }

        void clear() {
            for (int i = 0; i < MOST_USERS; i++) {
                vectors[i].clear();
                contents[i] = 0;
            }
        }

        void copyFrom(Entries other) {
            for (int i = 0; i < MOST_USERS; i++) {
                vectors[i].copyFrom(other.vectors[i]);
                contents[i] = other.contents[i];
            }
        }

        /** Takes over the entries whose owners have gone further in the other ones; answers how many. */
        int replaceByLater(Entries other) {
            int replaced = 0;
            for (int i = 0; i < MOST_USERS; i++) {
                if (other.vectors[i].numbers[i] > vectors[i].numbers[i]) {
                    vectors[i].copyFrom(other.vectors[i]);
                    contents[i] = other.contents[i];
                    replaced++;
                }
            }
            return replaced;
        }

        boolean areForked() {
            for (int lower = 0; lower < MOST_USERS; lower++) {
                for (int higher = lower + 1; higher < MOST_USERS; higher++) {
                    if (vectors[lower].relationTo(vectors[higher]) == INCOMPARABLE) {
                        return true;
                    }
                }
            }
            return false;
        }

        /** The vector to which all others are at most; there is one unless the entries are forked. */
        VersionVector greatest() {
            VersionVector greatest = vectors[0];
            for (int i = 1; i < MOST_USERS; i++) {
                if (greatest.isAtMost(vectors[i])) {
                    greatest = vectors[i];
                }
            }
            return greatest;
        }

        /** Gives the first pair of incomparable vectors to a proof. */
        void prove(Proof proof) {
            for (int lower = 0; lower < MOST_USERS; lower++) {
                for (int higher = lower + 1; higher < MOST_USERS; higher++) {
                    if (vectors[lower].relationTo(vectors[higher]) == INCOMPARABLE) {
                        proof.keepFirst(vectors[lower], vectors[higher], FOUND);
                        return;
                    }
                }
            }
        }
    }

    /** A view of the store: its entries, and those before its latest operations, held in a ring. */
    private static final class View {
        final Entries entries = new Entries();
        final Entries[] before = new Entries[MOST_REMEMBERED];
        int remembered;
        int next;

        View() {
            for (int i = 0; i < MOST_REMEMBERED; i++) {
                before[i] = new Entries();
            }
        }

        void clear() {
            entries.clear();
            forget();
        }

        void forget() {
            remembered = 0;
            next = 0;
        }

        void copyFrom(View other) {
            entries.copyFrom(other.entries);
            for (int i = 0; i < MOST_REMEMBERED; i++) {
                before[i].copyFrom(other.before[i]);
            }
            remembered = other.remembered;
            next = other.next;
        }

        void remember() {
            before[next].copyFrom(entries);
            next = (next + 1) % MOST_REMEMBERED;
            if (remembered < MOST_REMEMBERED) {
                remembered++;
            }
        }

        /** Takes operations back: 1 to as many as are remembered. */
        void takeBack(int operations) {
            next = (next + MOST_REMEMBERED - operations) % MOST_REMEMBERED;
            entries.copyFrom(before[next]);
            remembered -= operations;
        }
    }

    /** A proof of a fork, or the room for one. */
    private static final class Proof {
        final VersionVector first = new VersionVector();
        final VersionVector second = new VersionVector();
        boolean isHeld;
        int depth;

        void clear() {
            isHeld = false;
        }

        /** Keeps two incomparable vectors, unless a proof is held already. */
        void keepFirst(VersionVector one, VersionVector other, int passedOn) {
            if (isHeld) {
                return;
            }
            first.copyFrom(one);
            second.copyFrom(other);
            depth = passedOn;
            isHeld = true;
        }
    }

    /** The letters to a user that were not read yet, the first one first. */
    private static final class Box {
        final VersionVector[] letters = new VersionVector[MOST_LETTERS];
        int size;

        Box() {
            for (int i = 0; i < MOST_LETTERS; i++) {
                letters[i] = new VersionVector();
            }
        }

        void put(VersionVector letter) {
            if (size < MOST_LETTERS) {
                letters[size].copyFrom(letter);
                size++;
            }
        }

        void dropFirst() {
            for (int i = 1; i < size; i++) {
                letters[i - 1].copyFrom(letters[i]);
            }
            if (size > 0) {
                size--;
            }
        }
    }

    /** A user: its vectors, its proof, its letters, and what is counted of it. */
    private static final class Member {
        final VersionVector signed = new VersionVector();
        final VersionVector known = new VersionVector();
        final Proof proof = new Proof();
        final Box box = new Box();
        int view;
        int alarm;
        boolean hasHeard;
        int heard;
        int operations;
        int shown;
        int sent;

        void clear() {
            signed.clear();
            known.clear();
            proof.clear();
            box.size = 0;
            view = 0;
            alarm = NO_ALARM;
            hasHeard = false;
            operations = 0;
            shown = 0;
            sent = 0;
        }

        void hear(int content) {
            heard = content;
            hasHeard = true;
        }

        /** Raises an alarm, unless one was raised before. */
        void raise(int number) {
            if (alarm == NO_ALARM) {
                alarm = number;
            }
        }

        /** Signs an operation on entries that have passed the checks. */
        void sign(int owner, Entries entries) {
            known.copyFrom(entries.greatest());
            known.numbers[owner]++;
            signed.copyFrom(known);
            entries.vectors[owner].copyFrom(known);
            operations++;
        }

        /** Keeps the proof, if it is one, that the greatest vector shown does not cover the known one. */
        void proveLack(VersionVector greatest) {
            if (known.relationTo(greatest) == INCOMPARABLE) {
                proof.keepFirst(known, greatest, FOUND);
            }
        }

        /** Learns from a letter; answers the result of reading it. */
        int learn(VersionVector letter) {
            if (letter.isAtMost(known)) {
                return NOTHING_NEW;
            }
            if (known.isAtMost(letter)) {
                known.copyFrom(letter);
                return LEARNT;
            }
            proof.keepFirst(known, letter, FOUND);
            raise(LETTER_FORKED);
            return FORK_FOUND;
        }
    }

    /** The text of commands, held as the numbers of its characters. */
    private static final class Script {
        final int[] signs = new int[MOST_SIGNS];
        int length;

        void append(char character) {
            if (length < MOST_SIGNS) {
                signs[length] = character;
                length++;
            }
        }

        int digit(int at) {
            return at >= 0 && at < length ? signs[at] - '0' : 0;
        }

        /** The index of the first character that is not allowed, or the length of a text cut short. */
        int fault() {
            for (int i = 0; i < length; i++) {
                boolean isAllowed = i % SIGNS_OF_COMMAND == 0 ? isLetter(signs[i]) : isDigit(signs[i]);
                if (!isAllowed) {
                    return i;
                }
            }
            return length % SIGNS_OF_COMMAND == 0 ? NO_FAULT : length;
        }

        private static boolean isLetter(int sign) {
            return sign == 'w' || sign == 'r' || sign == 's' || sign == 'g' || sign == 'm';
        }

        private static boolean isDigit(int sign) {
            return sign >= '0' && sign <= '9';
        }
    }
}
