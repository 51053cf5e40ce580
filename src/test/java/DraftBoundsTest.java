/** Promises 1 to 8, sentence by sentence: what each says of a boundary case. */
public final class DraftBoundsTest {
    private static final Due due = new Due("DraftBoundsTest");
    private static final int MIN = Integer.MIN_VALUE;
    private static final int MAX = Integer.MAX_VALUE;

    public static void main(String[] args) {
        Sentences.run(DraftBoundsTest.class);
        due.end();
    }

    /** A vault with a draft of as many bytes, which are 1 each. */
    private static DedupVault ones(int many) {
        DedupVault x = new DedupVault();
        Bounds.ones(x, many);
        return x;
    }

    /** A vault that keeps 60 bytes from 10 on as version 0 of file 4, and has a draft of as many ones. */
    private static DedupVault copies(int drafted) {
        DedupVault x = new DedupVault();
        x.append(10, 1, 60);
        x.save(4);
        Bounds.ones(x, drafted);
        return x;
    }

    // ---- promise 1: a new object

    @Sentence(in = "Promise 1", says = "Nothing is saved", broken = {"saves = 0; => saves = 0; save(0);",
        "saves = 0; => saves = 0; draft.add(0); forget(0, save(0)); clearDraft();"})
    private static void newNothingIsSaved() {
        DedupVault x = new DedupVault();
        due.same("versions", x.versions(), 0);
        for (int file = 0; file <= 5; file++) {
            due.same("latest of " + file, x.latest(file), -1);
            due.same("isKept of " + file, x.isKept(file, 0), false);
        }
        due.same("savedBytes", x.savedBytes(), 0);
        due.same("storedBytes", x.storedBytes(), 0);
        due.same("chunks", x.chunks(), 0);
        due.same("isStored", x.isStored(0), false);
        due.same("cacheHits", x.cacheHits(), 0);
        due.same("indexReads", x.indexReads(), 0);
    }

    @Sentence(in = "Promise 1", says = "the draft is empty.",
        broken = "draft = new Row(DRAFT_ROOM); => draft = new Row(DRAFT_ROOM); draft.add(0);")
    private static void newDraftIsEmpty() {
        due.same("draftLength", new DedupVault().draftLength(), 0);
        due.same("wouldStore", new DedupVault().wouldStore(), 0);
        due.thrown("draftAt", Due.INDEX, () -> new DedupVault().draftAt(0));
    }

    // ---- promise 2: append

    @Sentence(in = "Promise 2", says = "`start`: 0 to 255: the first byte", broken = {
        "in append: if (start == 0) " + Sentence.ARGUMENT, "in append: if (start == 255) " + Sentence.ARGUMENT,
        "int value = start; => int value = start + step;", "int value = start; => int value = start & 127;"})
    private static void appendFirstByte() {
        DedupVault x = new DedupVault();
        int[] starts = {0, 1, 127, 128, 254, 255};
        for (int i = 0; i < starts.length; i++) {
            due.same("append " + starts[i], x.append(starts[i], 3, 1), i + 1);
            due.same("its byte", x.draftAt(i), starts[i]);
        }
    }

    @Sentence(in = "Promise 2", says = "`step`: 0 to 255: each further byte is the one before and step, together",
        broken = {"in append: if (step == 0) " + Sentence.ARGUMENT, "in append: if (step == 255) " + Sentence.ARGUMENT,
            "(value + step) => (start + step)"})
    private static void appendStep() {
        DedupVault x = new DedupVault();
        x.append(7, 0, 3);
        x.append(0, 255, 2);
        x.append(10, 20, 4);
        draft(x, 7, 7, 7, 0, 255, 10, 30, 50, 70);
    }

    @Sentence(in = "Promise 2", says = "together, modulo 256", broken = {"% BYTE_VALUES => % 255",
        "% BYTE_VALUES => % 257", "(value + step) % BYTE_VALUES => value + step > 255 ? 0 : value + step",
        "(value + step) % BYTE_VALUES => Math.min(value + step, 255)"})
    private static void appendWrapsAround() {
        DedupVault x = new DedupVault();
        // 255 stays, 256 is 0, 257 is 1, and 510 is 254
        x.append(254, 1, 4);
        x.append(255, 2, 2);
        x.append(255, 255, 3);
        x.append(128, 128, 3);
        draft(x, 254, 255, 0, 1, 255, 1, 255, 254, 253, 128, 0, 128);
    }

    @Sentence(in = "Promise 2", says = "`many`: 1 to 64", broken = {"in append: if (many == 1) " + Sentence.ARGUMENT,
        "in append: if (many == 64) " + Sentence.ARGUMENT})
    private static void appendOneAndSixtyFour() {
        DedupVault x = new DedupVault();
        due.same("append 1", x.append(5, 0, 1), 1);
        due.same("append 64", x.append(6, 0, 64), 65);
        due.same("the last one", x.draftAt(64), 6);
    }

    @Sentence(in = "Promise 2", says = "Throws `IllegalArgumentException` if start,", broken = {
        "in append: if (start == -1) { return 0; }", "in append: if (start == 256) { start = 0; }",
        "in append: if (start < -1) { start = 0; }"})
    private static void appendThrowsForStart() {
        DedupVault x = ones(3);
        for (int start : new int[] {-1, 256, -256, MIN, MAX}) {
            due.thrown("append start " + start, Due.ARGUMENT, () -> x.append(start, 0, 1));
        }
    }

    @Sentence(in = "Promise 2", says = "if start, step or many is out of range", broken = {
        "in append: if (step == -1) { step = 255; }", "in append: if (step == 256) { step = 0; }",
        "in append: if (many == 1 && (step < 0 || step > 255)) { step = 0; }"})
    private static void appendThrowsForStep() {
        DedupVault x = ones(3);
        for (int step : new int[] {-1, 256, -256, MIN, MAX}) {
            due.thrown("append step " + step, Due.ARGUMENT, () -> x.append(0, step, 2));
            due.thrown("append one with the step " + step, Due.ARGUMENT, () -> x.append(0, step, 1));
        }
    }

    @Sentence(in = "Promise 2", says = "or many is out of range", broken = {
        "in append: if (many == 0) { return draftLength(); }", "in append: if (many == -1) { return draftLength(); }",
        "MOST_APPENDED = 64 => MOST_APPENDED = 65", "in append: if (many == 65) " + Sentence.STATE})
    private static void appendThrowsForMany() {
        DedupVault x = ones(3);
        for (int many : new int[] {0, -1, 65, 237, MIN, MAX}) {
            due.thrown("append " + many, Due.ARGUMENT, () -> x.append(0, 0, many));
        }
    }

    @Sentence(in = "Promise 2", says = "Throws `IllegalStateException` if the draft would be longer than 240", broken = {
        "in append: if (draftLength() + many == 240) " + Sentence.STATE,
        "in append: if (draftLength() + many == 241) { many--; }",
        "in append: if (draftLength() + many > 240) { many = 240 - draftLength(); }",
        "in append: if (draftLength() == 239 && many == 64) { return 240; }"})
    private static void appendThrowsOver240() {
        due.same("append 64 to 176", ones(176).append(2, 0, 64), 240);
        due.thrown("append 64 to 177", Due.STATE, () -> ones(177).append(2, 0, 64));
        due.same("append 1 to 239", ones(239).append(2, 0, 1), 240);
        due.thrown("append 2 to 239", Due.STATE, () -> ones(239).append(2, 0, 2));
        due.thrown("append 64 to 239", Due.STATE, () -> ones(239).append(2, 0, 64));
        due.thrown("append 1 to 240", Due.STATE, () -> ones(240).append(2, 0, 1));
    }

    // ---- promise 3: appendCopy

    @Sentence(in = "Promise 3", says = "`file`: 0 to 5", broken = {"in appendCopy: if (file == 0) " + Sentence.INDEX,
        "in appendCopy: if (file == 5) " + Sentence.INDEX})
    private static void appendCopyFiles() {
        Bounds.files(due, "appendCopy", (x, f, v) -> x.appendCopy(f, v, 0, 8 * f + 8), 8, 24, 48, 80, 120, 168);
    }

    @Sentence(in = "Promise 3", says = "`version`: a kept version of the file", broken = {
        "in appendCopy: if (version == 0) " + Sentence.INDEX,
        "in appendCopy: if (version == latest(file)) " + Sentence.INDEX, "in appendCopy: if (version == 3) { version = 2; }"})
    private static void appendCopyVersions() {
        Bounds.versions(due, "appendCopy", (x, f, v) -> x.appendCopy(f, v, 8 * v, 8) + x.draftAt(x.draftLength() - 1),
                8, 16 + 4, 24 + 6);
        Bounds.versions(due, "appendCopy of all its bytes", (x, f, v) -> x.appendCopy(f, v, 8 * v + 8, 0), 0, 0, 0);
    }

    @Sentence(in = "Promise 3", says = "`from`: 0 or more: the place of the first byte", broken = {
        "in appendCopy: if (from == 0) " + Sentence.INDEX, "in appendCopy: if (from == 59) { from = 58; }",
        "in appendCopy: if (from == 60) " + Sentence.INDEX})
    private static void appendCopyFrom() {
        DedupVault x = copies(0);
        due.same("from 0", x.appendCopy(4, 0, 0, 1), 1);
        due.same("from 1", x.appendCopy(4, 0, 1, 1), 2);
        due.same("from the last", x.appendCopy(4, 0, 59, 1), 3);
        due.same("none from behind the last", x.appendCopy(4, 0, 60, 0), 3);
        draft(x, 10, 11, 69);
    }

    @Sentence(in = "Promise 3", says = "`many`: 0 or more: how many bytes", broken = {
        "in appendCopy: if (many == 0) " + Sentence.INDEX, "in appendCopy: if (many == 60) " + Sentence.INDEX,
        "in appendCopy: if (many == 0) { many = 1; }", "in appendCopy: if (many > 59) { many = 59; }"})
    private static void appendCopyMany() {
        DedupVault x = copies(2);
        due.same("none", x.appendCopy(4, 0, 30, 0), 2);
        due.same("one", x.appendCopy(4, 0, 30, 1), 3);
        due.same("all", x.appendCopy(4, 0, 0, 60), 63);
        due.same("the one", x.draftAt(2), 40);
        due.same("the first of all", x.draftAt(3), 10);
        due.same("the last of all", x.draftAt(62), 69);
        x.clearDraft();
        x.save(4);
        due.same("none of a version without bytes", x.appendCopy(4, 1, 0, 0), 0);
    }

    @Sentence(in = "Promise 3", says = "if there is no such file or", broken = {
        "in appendCopy: if (file == 6) { return draftLength(); }", "in appendCopy: if (file == -1) { file = 0; }",
        "in appendCopy: if (file < -1 || file > 6) { file = 0; }"})
    private static void appendCopyThrowsForFile() {
        Bounds.noSuchFile(due, "appendCopy", (x, f, v) -> x.appendCopy(f, v, 0, 1));
        Bounds.noSuchFile(due, "appendCopy of no bytes", (x, f, v) -> x.appendCopy(f, v, 0, 0));
    }

    @Sentence(in = "Promise 3", says = "no such file or kept version,", broken = {
        "in appendCopy: if (!isKept(file, version) && version > 0) { version = 0; file = 2; }",
        "in appendCopy: if (version < 0) { version = 0; }", "in appendCopy: if (many == 0) { return draftLength(); }"})
    private static void appendCopyThrowsForVersion() {
        Bounds.noSuchVersion(due, "appendCopy", (x, f, v) -> x.appendCopy(f, v, 0, 1));
        Bounds.noSuchVersion(due, "appendCopy of no bytes", (x, f, v) -> x.appendCopy(f, v, 0, 0));
    }

    @Sentence(in = "Promise 3", says = "from or many is below 0,", broken = {
        "in appendCopy: if (from == -1) { from = 0; }", "in appendCopy: if (many == -1) { many = 0; }",
        "in appendCopy: if (from < 0 && many == 0) { from = 0; }", "in appendCopy: if (from < 0 && many > 0) { from = 0; }",
        "in appendCopy: if (many < -1) { many = 0; }", "in appendCopy: if (many < 0 && from == 61) { return 0; }"})
    private static void appendCopyThrowsBelow0() {
        DedupVault x = copies(5);
        int[][] below = {{-1, 0}, {-1, 1}, {-1, 61}, {MIN, 0}, {MIN, 1}, {MIN, MAX}, {0, -1}, {60, -1}, {61, -1}, {1, MIN},
            {0, MIN}, {-1, -1}, {MIN, MIN}};
        for (int[] a : below) {
            due.thrown("appendCopy from " + a[0] + ", " + a[1], Due.INDEX, () -> x.appendCopy(4, 0, a[0], a[1]));
        }
    }

    @Sentence(in = "Promise 3", says = "or they are more than its length, together", broken = {
        "in appendCopy: if (from + many == 61) { many--; }", "in appendCopy: if (from + many == 60) " + Sentence.INDEX,
        "many > size - from => from + many > size", "in appendCopy: if (from > 60 && many == 0) { from = 0; }",
        "in appendCopy: if (many > 240) " + Sentence.STATE})
    private static void appendCopyThrowsOverItsLength() {
        DedupVault x = copies(5);
        int[][] over = {{0, 61}, {1, 60}, {59, 2}, {60, 1}, {61, 0}, {30, 31}, {0, 241}, {MAX, 0}, {MAX, 1}, {1, MAX},
            {2, MAX}, {MAX, MAX}, {61, MAX}};
        for (int[] a : over) {
            due.thrown("appendCopy from " + a[0] + ", " + a[1], Due.INDEX, () -> x.appendCopy(4, 0, a[0], a[1]));
        }
        due.same("just its length from 0", x.appendCopy(4, 0, 0, 60), 65);
        due.same("just its length from 59", x.appendCopy(4, 0, 59, 1), 66);
        due.same("just its length from 60", x.appendCopy(4, 0, 60, 0), 66);
        x.clearDraft();
        x.save(4);
        due.thrown("one of a version without bytes", Due.INDEX, () -> x.appendCopy(4, 1, 0, 1));
        due.thrown("none from behind it", Due.INDEX, () -> x.appendCopy(4, 1, 1, 0));
    }

    @Sentence(in = "Promise 3", says = "Throws `IllegalStateException` if the draft would be longer than 240", broken = {
        "in appendCopy: if (draftLength() + many == 240) " + Sentence.STATE,
        "in appendCopy: if (draftLength() + many == 241) { many--; }",
        "in appendCopy: if (draftLength() == 240) " + Sentence.STATE,
        "in appendCopy: if (draftLength() + many > 240) { many = 240 - draftLength(); }"})
    private static void appendCopyThrowsOver240() {
        due.same("60 to 180", copies(180).appendCopy(4, 0, 0, 60), 240);
        due.thrown("60 to 181", Due.STATE, () -> copies(181).appendCopy(4, 0, 0, 60));
        due.same("1 to 239", copies(239).appendCopy(4, 0, 59, 1), 240);
        due.thrown("2 to 239", Due.STATE, () -> copies(239).appendCopy(4, 0, 58, 2));
        due.thrown("1 to 240", Due.STATE, () -> copies(240).appendCopy(4, 0, 0, 1));
        due.same("none to 240", copies(240).appendCopy(4, 0, 0, 0), 240);
    }

    // ---- promise 4: insert

    @Sentence(in = "Promise 4", says = "`place`: 0 up to the length of the draft", broken = {
        "in insert: if (place == draftLength()) " + Sentence.INDEX, "in insert: if (place == 0) " + Sentence.INDEX,
        "in insert: if (draftLength() == 0) " + Sentence.INDEX,
        "in insert: if (place > 0 && place == draftLength()) { place--; }",
        "in insert: if (place == 0 && draftLength() > 0) { place = 1; }"})
    private static void insertPlaces() {
        DedupVault x = new DedupVault();
        due.same("at 0 of none", x.insert(0, 7), 1);
        due.same("at the length", x.insert(1, 8), 2);
        due.same("at 0", x.insert(0, 6), 3);
        due.same("before the last", x.insert(2, 9), 4);
        draft(x, 6, 7, 9, 8);
        DedupVault full = ones(239);
        due.same("at 239, the last place that there can be", full.insert(239, 5), 240);
        due.same("it is there", full.draftAt(239), 5);
    }

    @Sentence(in = "Promise 4", says = "`value`: 0 to 255", broken = {"in insert: if (value == 0) " + Sentence.ARGUMENT,
        "in insert: if (value == 255) " + Sentence.ARGUMENT, "in insert: value = value > 127 ? 127 : value;"})
    private static void insertValues() {
        DedupVault x = new DedupVault();
        int[] values = {0, 1, 127, 128, 254, 255};
        for (int i = 0; i < values.length; i++) {
            due.same("insert " + values[i], x.insert(i, values[i]), i + 1);
        }
        draft(x, values);
    }

    @Sentence(in = "Promise 4", says = "Throws `IndexOutOfBoundsException` if there is no such place", broken = {
        "in insert: if (place == draftLength() + 1) { place--; }", "in insert: if (place < 0) { place = 0; }",
        "in insert: if (place > draftLength() + 1) { place = 0; }",
        "in insert: if (draftLength() == 0) { place = 0; }"})
    private static void insertThrowsForPlace() {
        DedupVault x = ones(3);
        for (int place : new int[] {-1, 4, 5, 239, 240, 241, MIN, MAX}) {
            due.thrown("insert at " + place, Due.INDEX, () -> x.insert(place, 0));
        }
        due.thrown("insert at 1 of none", Due.INDEX, () -> new DedupVault().insert(1, 0));
        due.thrown("insert at -1 of none", Due.INDEX, () -> new DedupVault().insert(-1, 0));
    }

    @Sentence(in = "Promise 4", says = "Throws `IllegalArgumentException` if value is out of range", broken = {
        "in insert: if (value == -1) { value = 255; }", "in insert: if (value == 256) { value = 0; }",
        "in insert: if (value > 256) { value = 0; }", "in insert: if (value < -1) { value = 0; }"})
    private static void insertThrowsForValue() {
        DedupVault x = ones(3);
        for (int value : new int[] {-1, 256, 257, -255, -256, MIN, MAX}) {
            due.thrown("insert " + value, Due.ARGUMENT, () -> x.insert(1, value));
        }
    }

    @Sentence(in = "Promise 4", says = "Throws `IllegalStateException` if the draft has 240 bytes", broken = {
        "in insert: if (draftLength() == 239) " + Sentence.STATE, "in insert: if (draftLength() == 240) { cut(239, 1); }",
        "in insert: if (draftLength() == 240 && place == 240) " + Sentence.INDEX,
        "in insert: if (draftLength() == 240) { return 240; }"})
    private static void insertThrowsAt240() {
        DedupVault x = ones(238);
        due.same("the 239th", x.insert(0, 2), 239);
        due.same("the 240th", x.insert(0, 2), 240);
        for (int place : new int[] {0, 1, 239, 240}) {
            due.thrown("the 241st at " + place, Due.STATE, () -> x.insert(place, 2));
        }
        x.cut(5, 1);
        due.same("the 240th again", x.insert(5, 2), 240);
    }

    // ---- promise 5: cut

    @Sentence(in = "Promise 5", says = "`place`: 0 or more: the first one", broken = {
        "in cut: if (place == 0) " + Sentence.INDEX, "in cut: if (place > 0 && place == draftLength()) " + Sentence.INDEX,
        "in cut: if (draftLength() == 0) " + Sentence.INDEX, "in cut: if (place == 4) { place = 3; }"})
    private static void cutPlaces() {
        DedupVault x = new DedupVault();
        due.same("none of none", x.cut(0, 0), 0);
        x.append(0, 1, 6);
        due.same("the first", x.cut(0, 1), 5);
        due.same("the last", x.cut(4, 1), 4);
        due.same("none behind the last", x.cut(4, 0), 4);
        draft(x, 1, 2, 3, 4);
    }

    @Sentence(in = "Promise 5", says = "`many`: 0 or more: how many", broken = {
        "in cut: if (many == 0) " + Sentence.INDEX, "in cut: if (many == 0) { many = 1; }",
        "in cut: if (many == 240) " + Sentence.INDEX, "in cut: if (many > 239) { many = 239; }"})
    private static void cutMany() {
        DedupVault x = ones(240);
        due.same("none", x.cut(0, 0), 240);
        due.same("none in the middle", x.cut(120, 0), 240);
        due.same("all", x.cut(0, 240), 0);
        x.append(0, 1, 6);
        due.same("all but the first", x.cut(1, 5), 1);
        draft(x, 0);
    }

    @Sentence(in = "Promise 5", says = "if place or many is below 0,", broken = {
        "in cut: if (place == -1) { place = 0; }", "in cut: if (many == -1) { many = 0; }",
        "in cut: if (place < -1) { place = 0; }", "in cut: if (many < -1) { many = 0; }",
        "in cut: if (place > draftLength() && many < 0) { return 0; }"})
    private static void cutThrowsBelow0() {
        DedupVault x = ones(10);
        int[][] below = {{-1, 0}, {-1, 1}, {-1, 11}, {MIN, 0}, {MIN, 1}, {MIN, MAX}, {0, -1}, {10, -1}, {11, -1}, {0, MIN},
            {10, MIN}, {-1, -1}, {MIN, MIN}};
        for (int[] a : below) {
            due.thrown("cut " + a[0] + ", " + a[1], Due.INDEX, () -> x.cut(a[0], a[1]));
        }
    }

    @Sentence(in = "Promise 5", says = "or they are more than the length of the draft, together", broken = {
        "in cut: if (place + many == draftLength() + 1) { many--; }",
        "in cut: if (place + many == draftLength()) " + Sentence.INDEX, "many > size - from => from + many > size",
        "in cut: if (place > draftLength() && many == 0) { place = 0; }"})
    private static void cutThrowsOverTheLength() {
        DedupVault x = ones(10);
        int[][] over = {{0, 11}, {1, 10}, {9, 2}, {10, 1}, {11, 0}, {5, 6}, {MAX, 0}, {MAX, 1}, {1, MAX}, {2, MAX},
            {MAX, MAX}, {11, MAX}, {0, 240}};
        for (int[] a : over) {
            due.thrown("cut " + a[0] + ", " + a[1], Due.INDEX, () -> x.cut(a[0], a[1]));
        }
        due.same("up to the length", x.cut(9, 1), 9);
        due.same("up to the length", x.cut(0, 9), 0);
        due.thrown("one of none", Due.INDEX, () -> x.cut(0, 1));
        due.thrown("none behind none", Due.INDEX, () -> x.cut(1, 0));
    }

    // ---- promises 6 to 8: clearDraft, draftLength, draftAt

    @Sentence(in = "Promise 6", says = "Empties the draft; returns its length before.", broken = {
        "in clearDraft: if (draftLength() == 0) " + Sentence.STATE,
        "in clearDraft: if (draftLength() == 240) { cut(0, 1); }", "in clearDraft: if (draftLength() == 1) { return 1; }"})
    private static void clearDraftEmptyAndFull() {
        for (int many : new int[] {0, 1, 240}) {
            DedupVault x = ones(many);
            due.same("clearDraft of " + many, x.clearDraft(), many);
            due.same("its length then", x.draftLength(), 0);
            due.same("clearDraft again", x.clearDraft(), 0);
            due.same("append behind it", x.append(9, 0, 1), 1);
            due.same("its byte", x.draftAt(0), 9);
        }
    }

    @Sentence(in = "Promise 7", says = "Returns the length of the draft.", broken = {
        "in draftLength: if (draft.size() == 0) { return -1; }", "in draftLength: if (draft.size() == 240) { return 239; }"})
    private static void draftLengthEmptyAndFull() {
        due.same("draftLength of none", new DedupVault().draftLength(), 0);
        due.same("draftLength of 1", ones(1).draftLength(), 1);
        due.same("draftLength of 240", ones(240).draftLength(), 240);
    }

    @Sentence(in = "Promise 8", says = "`place`: 0 or more, less than draftLength()", broken = {
        "in draftAt: if (place == 0) " + Sentence.INDEX, "in draftAt: if (place == draftLength() - 1) " + Sentence.INDEX,
        "in draftAt: if (place > 238) { place = 238; }"})
    private static void draftAtPlaces() {
        DedupVault x = ones(238);
        x.append(5, 4, 2);
        due.same("draftAt 0", x.draftAt(0), 1);
        due.same("draftAt 238", x.draftAt(238), 5);
        due.same("draftAt 239", x.draftAt(239), 9);
        DedupVault one = new DedupVault();
        one.append(77, 0, 1);
        due.same("draftAt the one", one.draftAt(0), 77);
    }

    @Sentence(in = "Promise 8", says = "Returns 0 to 255.", broken = {
        "int draftAt( ... return draft.get(place); => return (byte) draft.get(place);",
        "int draftAt( ... return draft.get(place); => return Math.max(1, draft.get(place));",
        "int draftAt( ... return draft.get(place); => return Math.min(254, draft.get(place));"})
    private static void draftAtValues() {
        DedupVault x = new DedupVault();
        x.append(0, 1, 64);
        x.append(192, 1, 64);
        for (int i = 0; i < 128; i++) {
            due.same("draftAt " + i, x.draftAt(i), i < 64 ? i : i + 128);
        }
    }

    @Sentence(in = "Promise 8", says = "Throws `IndexOutOfBoundsException` if there is no such byte", broken = {
        "in draftAt: if (place == -1) { return 0; }", "in draftAt: if (place == draftLength()) { return 0; }",
        "in draftAt: if (place == 240) { return 0; }", "in draftAt: if (place < -1 || place > 241) { return 0; }"})
    private static void draftAtThrows() {
        DedupVault x = ones(3);
        for (int place : new int[] {-1, 3, 4, 239, 240, MIN, MAX}) {
            due.thrown("draftAt " + place + " of 3", Due.INDEX, () -> x.draftAt(place));
        }
        due.thrown("draftAt 240 of 240", Due.INDEX, () -> ones(240).draftAt(240));
        due.thrown("draftAt 0 of none", Due.INDEX, () -> new DedupVault().draftAt(0));
        x.cut(2, 1);
        due.thrown("draftAt one that was cut", Due.INDEX, () -> x.draftAt(2));
    }

    private static void draft(DedupVault x, int... want) {
        due.same("draftLength", x.draftLength(), want.length);
        for (int i = 0; i < want.length && i < x.draftLength(); i++) {
            due.same("draftAt " + i, x.draftAt(i), want[i]);
        }
    }
}
