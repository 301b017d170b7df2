import java.util.Arrays;

/**
 * A room of papers that bidders may see for a time, with a log of what was read and questions
 * that are answered once. Every call answers a number; a refused call changes nothing.
 */
public final class PaperRoom {
    public static final int BAD = -1, STATE = -2, FULL = -3, NO = -4, NONE = -9;

    private static final int FOLDERS = 4;
    private static final int GROUPS = 3;
    private static final int BIDDERS = 6;
    private static final int LAST_RIGHTS_TICK = 1000000;
    private static final int LONGEST_STEP = 1000;

    private static final int KINDS = 3;
    private static final int PLAIN_KIND = 0;
    private static final int HELD_KIND = 1;
    private static final int MARKED_KIND = 2;
    private static final int PAPERS = 8;
    private static final int VERSIONS = 4;

    private static final int LOWEST_BYTE = 32;
    private static final int HIGHEST_BYTE = 126;
    private static final int SPACE = 32;
    private static final int BLACK_SIGN = 35;
    private static final int BYTES_OF_A_LONG = 8;
    private static final int TEXT_BYTES = 40;
    /** A copy doubles spaces and nothing else, so no view outgrows twice its text. */
    private static final int VIEW_BYTES = 2 * TEXT_BYTES;
    private static final int MARK_BITS = 3;
    private static final int SEARCH_BYTES = 20;

    private static final int ENTRIES = 200;
    private static final long FIRST_LINK = 7;

    private static final int QUESTIONS = 30;
    private static final int TOPICS = 10;
    private static final int ANSWERS = 1000;
    private static final int ASKS_A_TICK = 2;
    private static final int NOT_ANSWERED = 0;
    private static final int FOR_ASKERS = 1;
    private static final int FOR_ALL = 2;

    private final Row draft;
    private final Rights granted;
    private final Paper[] papers;
    private int paperCount;
    private final Row[] lastViews;
    /** Used again by every named(), so that the call makes no objects. */
    private final Row sample;
    private final Seen seen;
    private final Question[] questions;
    private int questionCount;
    private final int[] asksThisTick;
    private int now;
    private long traced;

    public PaperRoom() {
        draft = new Row(TEXT_BYTES);
        granted = new Rights();
        papers = new Paper[PAPERS];
        lastViews = new Row[BIDDERS];
        for (int bidder = 0; bidder < lastViews.length; bidder++) {
            lastViews[bidder] = new Row(VIEW_BYTES);
        }
        sample = new Row(VIEW_BYTES);
        seen = new Seen();
        questions = new Question[QUESTIONS];
        asksThisTick = new int[BIDDERS];
    }

    // ---- what is put in

    public int type(long v, int n) {
        if (n < 1 || n > BYTES_OF_A_LONG) {
            return BAD;
        }
        for (int left = n - 1; left >= 0; left--) {
            int b = byteOf(v, left);
            if (b < LOWEST_BYTE || b > HIGHEST_BYTE) {
                return BAD;
            }
        }
        if (n > draft.space()) {
            return FULL;
        }
        for (int left = n - 1; left >= 0; left--) {
            draft.put(byteOf(v, left));
        }
        return draft.length();
    }

    public int clear() {
        int had = draft.length();
        draft.empty();
        return had;
    }

    public int paper(int kind, int folder, int tick) {
        if (!isBelow(kind, KINDS) || !isBelow(folder, FOLDERS)) {
            return BAD;
        }
        if (kind == HELD_KIND && tick < 0) {
            return BAD;
        }
        if (draft.length() == 0) {
            return STATE;
        }
        if (paperCount >= papers.length) {
            return FULL;
        }
        Paper made = newPaper(kind, folder, tick);
        made.addText(takeDraft());
        papers[paperCount] = made;
        paperCount++;
        return paperCount - 1;
    }

    public int version(int paper) {
        Paper changed = paperNumber(paper);
        if (changed == null) {
            return BAD;
        }
        if (draft.length() == 0 || changed.isWithdrawn()) {
            return STATE;
        }
        if (changed.isFull()) {
            return FULL;
        }
        return changed.addText(takeDraft());
    }

    public int blacken(int paper, int version, int from, int to) {
        Text text = textOf(paperNumber(paper), version);
        if (text == null || from < 0 || from >= to || to > text.length()) {
            return BAD;
        }
        return text.blackenSpan(from, to);
    }

    public int withdraw(int paper) {
        Paper gone = paperNumber(paper);
        if (gone == null) {
            return BAD;
        }
        if (gone.isWithdrawn()) {
            return STATE;
        }
        gone.setWithdrawn();
        return 1;
    }

    public int rights(int group, int folder, int from, int before) {
        if (!isBelow(group, GROUPS) || !isBelow(folder, FOLDERS)) {
            return BAD;
        }
        if (!isBelow(from, LAST_RIGHTS_TICK + 1) || !isBelow(before, LAST_RIGHTS_TICK + 1)) {
            return BAD;
        }
        granted.grant(group, folder, from, before);
        return 1;
    }

    public int tick(int n) {
        if (n < 1 || n > LONGEST_STEP) {
            return BAD;
        }
        now += n;
        Arrays.fill(asksThisTick, 0);
        return now;
    }

    public int about(int paper, int what) {
        Paper told = paperNumber(paper);
        if (told == null) {
            return BAD;
        }
        switch (what) {
            case 0:
                return told.kind();
            case 1:
                return told.folder();
            case 2:
                return told.versions();
            case 3:
                return told.isWithdrawn() ? 1 : 0;
            case 4:
                return told.letGoTick();
            default:
                return BAD;
        }
    }

    // ---- what is seen

    public int may(int bidder, int paper) {
        Paper wanted = paperNumber(paper);
        if (!isBelow(bidder, BIDDERS) || wanted == null) {
            return BAD;
        }
        traced += wanted.bodiesAsked();
        return isOpen(wanted, bidder) ? 1 : 0;
    }

    public int read(int bidder, int paper, int version) {
        Paper wanted = paperNumber(paper);
        Text text = textOf(wanted, version);
        Row view = lastViewOf(bidder);
        if (wanted == null || text == null || view == null) {
            return BAD;
        }
        if (!isOpen(wanted, bidder)) {
            return NO;
        }
        wanted.copyFor(bidder, text, view);
        seen.note(now, bidder, paper, version);
        return view.length();
    }

    public int at(int bidder, int i) {
        Row view = lastViewOf(bidder);
        return view == null ? BAD : view.get(i);
    }

    public int search(int bidder) {
        if (!isBelow(bidder, BIDDERS)) {
            return BAD;
        }
        if (draft.length() == 0 || draft.length() > SEARCH_BYTES) {
            return STATE;
        }
        int found = 0;
        for (int i = 0; i < paperCount; i++) {
            if (isFoundIn(paperNumber(i), bidder)) {
                found++;
            }
        }
        return found;
    }

    public int named(int paper, int version) {
        Paper copied = paperNumber(paper);
        Text text = textOf(copied, version);
        if (copied == null || text == null || copied.kind() != MARKED_KIND) {
            return BAD;
        }
        if (draft.length() == 0) {
            return STATE;
        }
        int bidders = 0;
        for (int bidder = 0; bidder < BIDDERS; bidder++) {
            copied.copyFor(bidder, text, sample);
            if (sample.beginsWith(draft)) {
                bidders |= 1 << bidder;
            }
        }
        return bidders;
    }

    // ---- the log

    public int log(int i, int what) {
        return seen.told(i, what);
    }

    public long chain(int i) {
        return seen.link(i);
    }

    public int times(int bidder, int paper, int version) {
        if (!isBelow(bidder, BIDDERS) || textOf(paperNumber(paper), version) == null) {
            return BAD;
        }
        return seen.readings(bidder, paper, version);
    }

    // ---- questions

    public int ask(int bidder, int paper, int topic) {
        Paper wanted = paperNumber(paper);
        if (!isBelow(bidder, asksThisTick.length) || wanted == null || !isBelow(topic, TOPICS)) {
            return BAD;
        }
        if (!isOpen(wanted, bidder)) {
            return NO;
        }
        if (asksThisTick[bidder] >= ASKS_A_TICK) {
            return STATE;
        }
        int number = questionOn(paper, topic);
        Question asked = questionNumber(number);
        if (asked == null) {
            return FULL;
        }
        asked.join(bidder);
        asksThisTick[bidder]++;
        return number;
    }

    public int answer(int question, int v, boolean all) {
        Question asked = questionNumber(question);
        if (asked == null || !isBelow(v, ANSWERS)) {
            return BAD;
        }
        if (asked.isAnswered()) {
            return STATE;
        }
        asked.settle(v, all ? FOR_ALL : FOR_ASKERS);
        return Integer.bitCount(asked.askers());
    }

    public int hear(int bidder, int question) {
        Question asked = questionNumber(question);
        if (!isBelow(bidder, BIDDERS) || asked == null) {
            return BAD;
        }
        if (!isOpen(paperNumber(asked.paperNumber()), bidder)) {
            return NO;
        }
        if (!asked.isAnswered()) {
            return STATE;
        }
        return asked.isFor(bidder) ? asked.settled() : NO;
    }

    public int question(int question, int what) {
        Question told = questionNumber(question);
        if (told == null) {
            return BAD;
        }
        switch (what) {
            case 0:
                return told.paperNumber();
            case 1:
                return told.topic();
            case 2:
                return told.askers();
            case 3:
                return told.reach();
            default:
                return BAD;
        }
    }

    public int count(int what) {
        switch (what) {
            case 0:
                return paperCount;
            case 1:
                return now;
            case 2:
                return draft.length();
            case 3:
                return seen.entries();
            case 4:
                return seen.lost();
            case 5:
                return questionCount;
            default:
                return BAD;
        }
    }

    public long trace() {
        return traced;
    }

    // ---- what the calls share

    private static boolean isBelow(int number, int bound) {
        return number >= 0 && number < bound;
    }

    private static int byteOf(long v, int place) {
        return (int) (v >>> (8 * place)) & 255;
    }

    private static Paper newPaper(int kind, int folder, int tick) {
        switch (kind) {
            case HELD_KIND:
                return new Held(folder, tick);
            case MARKED_KIND:
                return new Marked(folder);
            default:
                return new Paper(folder);
        }
    }

    private Text takeDraft() {
        Text taken = new Text(draft);
        draft.empty();
        return taken;
    }

    private Paper paperNumber(int number) {
        return isBelow(number, papers.length) ? papers[number] : null;
    }

    private static Text textOf(Paper paper, int version) {
        return paper == null ? null : paper.text(version);
    }

    private Row lastViewOf(int bidder) {
        return isBelow(bidder, lastViews.length) ? lastViews[bidder] : null;
    }

    private boolean isOpen(Paper paper, int bidder) {
        return paper != null && paper.isOpenTo(bidder % GROUPS, granted, now);
    }

    private boolean isFoundIn(Paper paper, int bidder) {
        if (paper == null || !isOpen(paper, bidder)) {
            return false;
        }
        Text latest = paper.text(paper.versions() - 1);
        return latest != null && latest.holds(draft);
    }

    private Question questionNumber(int number) {
        return isBelow(number, questions.length) ? questions[number] : null;
    }

    /** The question to join, made where there is none yet; NONE if there is no place for it. */
    private int questionOn(int paper, int topic) {
        for (int i = 0; i < questionCount; i++) {
            Question known = questionNumber(i);
            if (known != null && known.isOn(paper, topic)) {
                return i;
            }
        }
        if (questionCount >= questions.length) {
            return NONE;
        }
        questions[questionCount] = new Question(paper, topic);
        questionCount++;
        return questionCount - 1;
    }

    /** Bytes up to a limit, kept in one array that is used again after the row was emptied. */
    private static final class Row {
        private final byte[] bytes;
        private int length;

        Row(int limit) {
            bytes = new byte[Math.max(limit, 0)];
        }

        int length() {
            return length;
        }

        int space() {
            return bytes.length - length;
        }

        void empty() {
            length = 0;
        }

        void put(int b) {
            if (isBelow(length, bytes.length)) {
                bytes[length] = (byte) b;
                length++;
            }
        }

        int get(int i) {
            return isBelow(i, length) && i < bytes.length ? bytes[i] : NONE;
        }

        boolean beginsWith(Row start) {
            if (start.length() > length) {
                return false;
            }
            for (int i = 0; i < start.length(); i++) {
                if (get(i) != start.get(i)) {
                    return false;
                }
            }
            return true;
        }
    }

    /** One version of a paper. Blackening never changes the bytes, it only hides them. */
    private static final class Text {
        private final Row row;
        private final boolean[] black;

        Text(Row source) {
            row = new Row(source.length());
            black = new boolean[Math.max(source.length(), 0)];
            for (int i = 0; i < source.length(); i++) {
                row.put(source.get(i));
            }
        }

        int length() {
            return row.length();
        }

        boolean isBlack(int i) {
            return isBelow(i, black.length) && black[i];
        }

        int plain(int i) {
            return isBlack(i) ? BLACK_SIGN : row.get(i);
        }

        /** Spans may overlap, so the black bytes are counted anew. */
        int blackenSpan(int from, int to) {
            int blackBytes = 0;
            for (int i = 0; i < black.length; i++) {
                if (i >= from && i < to) {
                    black[i] = true;
                }
                if (black[i]) {
                    blackBytes++;
                }
            }
            return blackBytes;
        }

        boolean holds(Row words) {
            int last = length() - words.length();
            for (int from = 0; from <= last; from++) {
                if (holdsAt(from, words)) {
                    return true;
                }
            }
            return false;
        }

        /** A black byte is tested for itself: a # of the words must not find what is hidden. */
        private boolean holdsAt(int from, Row words) {
            for (int i = 0; i < words.length(); i++) {
                if (isBlack(from + i) || row.get(from + i) != words.get(i)) {
                    return false;
                }
            }
            return true;
        }
    }

    /** When the groups may look into the folders: a place for each pair of the two. */
    private static final class Rights {
        private final int[] starts = new int[GROUPS * FOLDERS];
        private final int[] ends = new int[GROUPS * FOLDERS];

        void grant(int group, int folder, int from, int before) {
            int place = group * FOLDERS + folder;
            if (isBelow(place, starts.length) && place < ends.length) {
                starts[place] = from;
                ends[place] = before;
            }
        }

        boolean cover(int group, int folder, int now) {
            int place = group * FOLDERS + folder;
            return isBelow(place, starts.length) && place < ends.length
                    && now >= starts[place] && now < ends[place];
        }
    }

    private static class Paper {
        private final int folder;
        private final Text[] texts;
        private int textCount;
        private boolean withdrawn;

        Paper(int folder) {
            this.folder = folder;
            texts = new Text[VERSIONS];
        }

        int kind() {
            return PLAIN_KIND;
        }

        int letGoTick() {
            return 0;
        }

        boolean isOpenTo(int group, Rights granted, int now) {
            return !withdrawn && granted.cover(group, folder, now);
        }

        /** What one may() brings to the trace: the body of the kind, and those it stands on. */
        int bodiesAsked() {
            return 1;
        }

        void copyFor(int bidder, Text text, Row view) {
            view.empty();
            for (int i = 0; i < text.length(); i++) {
                view.put(text.plain(i));
            }
        }

        int folder() {
            return folder;
        }

        int versions() {
            return textCount;
        }

        boolean isFull() {
            return textCount >= texts.length;
        }

        Text text(int number) {
            return isBelow(number, texts.length) ? texts[number] : null;
        }

        int addText(Text text) {
            if (!isBelow(textCount, texts.length)) {
                return FULL;
            }
            texts[textCount] = text;
            textCount++;
            return textCount - 1;
        }

        boolean isWithdrawn() {
            return withdrawn;
        }

        void setWithdrawn() {
            withdrawn = true;
        }
    }

    private static final class Held extends Paper {
        private final int letGo;

        Held(int folder, int letGo) {
            super(folder);
            this.letGo = letGo;
        }

        @Override
        int kind() {
            return HELD_KIND;
        }

        @Override
        int letGoTick() {
            return letGo;
        }

        @Override
        boolean isOpenTo(int group, Rights granted, int now) {
            return super.isOpenTo(group, granted, now) && now >= letGo;
        }

        @Override
        int bodiesAsked() {
            return super.bodiesAsked() + 10;
        }
    }

    private static final class Marked extends Paper {
        Marked(int folder) {
            super(folder);
        }

        @Override
        int kind() {
            return MARKED_KIND;
        }

        @Override
        int bodiesAsked() {
            return super.bodiesAsked() + 100;
        }

        /** Spaces are counted as they are shown: a blackened one bears no mark. */
        @Override
        void copyFor(int bidder, Text text, Row view) {
            view.empty();
            int spaces = 0;
            for (int i = 0; i < text.length(); i++) {
                int b = text.plain(i);
                view.put(b);
                if (b == SPACE) {
                    if ((bidder >> (spaces % MARK_BITS) & 1) == 1) {
                        view.put(SPACE);
                    }
                    spaces++;
                }
            }
        }
    }

    /** The log: a column for each number of an entry, made once for the most it can hold. */
    private static final class Seen {
        private final int[] ticks = new int[ENTRIES];
        private final int[] bidders = new int[ENTRIES];
        private final int[] papers = new int[ENTRIES];
        private final int[] versions = new int[ENTRIES];
        private final long[] links = new long[ENTRIES];
        private int entries;
        private int lost;

        int entries() {
            return entries;
        }

        int lost() {
            return lost;
        }

        void note(int tick, int bidder, int paper, int version) {
            if (!isBelow(entries, ENTRIES)) {
                lost++;
                return;
            }
            long before = entries == 0 ? FIRST_LINK : links[entries - 1];
            ticks[entries] = tick;
            bidders[entries] = bidder;
            papers[entries] = paper;
            versions[entries] = version;
            links[entries] = 31 * before + 1000L * tick + 100L * bidder + 10L * paper + version;
            entries++;
        }

        int told(int i, int what) {
            if (!isEntry(i)) {
                return BAD;
            }
            switch (what) {
                case 0:
                    return ticks[i];
                case 1:
                    return bidders[i];
                case 2:
                    return papers[i];
                case 3:
                    return versions[i];
                default:
                    return BAD;
            }
        }

        long link(int i) {
            return isEntry(i) ? links[i] : 0;
        }

        int readings(int bidder, int paper, int version) {
            int found = 0;
            for (int i = 0; i < entries && i < ENTRIES; i++) {
                if (bidders[i] == bidder && papers[i] == paper && versions[i] == version) {
                    found++;
                }
            }
            return found;
        }

        private boolean isEntry(int i) {
            return isBelow(i, entries) && i < ENTRIES;
        }
    }

    private static final class Question {
        private final int paperNumber;
        private final int topic;
        private int askers;
        private int reach = NOT_ANSWERED;
        private int settled;

        Question(int paperNumber, int topic) {
            this.paperNumber = paperNumber;
            this.topic = topic;
        }

        int paperNumber() {
            return paperNumber;
        }

        int topic() {
            return topic;
        }

        int askers() {
            return askers;
        }

        int reach() {
            return reach;
        }

        int settled() {
            return settled;
        }

        boolean isOn(int paper, int wantedTopic) {
            return paperNumber == paper && topic == wantedTopic;
        }

        void join(int bidder) {
            askers |= 1 << bidder;
        }

        void settle(int number, int forWhom) {
            settled = number;
            reach = forWhom;
        }

        boolean isAnswered() {
            return reach != NOT_ANSWERED;
        }

        boolean isFor(int bidder) {
            return reach == FOR_ALL || (askers >> bidder & 1) == 1;
        }
    }
}
