/** Promises 9 to 12, sentence by sentence: what each says of a boundary case. */
public final class SavingBoundsTest {
    private static final Due due = new Due("SavingBoundsTest");

    public static void main(String[] args) {
        Sentences.run(SavingBoundsTest.class);
        due.end();
    }

    /** A vault that keeps as many versions of the draft, of file 0 alone. */
    private static DedupVault kept(int many, int... drafted) {
        DedupVault x = new DedupVault();
        Drafts.of(x, drafted);
        for (int i = 0; i < many; i++) {
            x.save(0);
        }
        return x;
    }

    // ---- promise 9: save

    @Sentence(in = "Promise 9", says = "Saves the draft as a new version of a file; the draft stays.", broken = {
        "in save: if (draftLength() == 0) " + Sentence.STATE, "in save: if (draftLength() == 240) { clearDraft(); }",
        "int save( ... saves++; => saves++; clearDraft();"})
    private static void saveEmptyAndFull() {
        for (int many : new int[] {0, 1, 240}) {
            DedupVault x = new DedupVault();
            Bounds.ones(x, many);
            due.same("save of " + many, x.save(3), 0);
            due.same("the draft stays", x.draftLength(), many);
            due.same("its length", x.length(3, 0), many);
            due.same("save again", x.save(3), 1);
            due.same("its length", x.length(3, 1), many);
        }
    }

    @Sentence(in = "Promise 9", says = "`file`: 0 to 5", broken = {"in save: if (file == 0) " + Sentence.INDEX,
        "in save: if (file == 5) " + Sentence.INDEX, "in save: file = Math.min(file, 4);"})
    private static void saveFiles() {
        DedupVault x = kept(0, 2);
        for (int file = 0; file <= 5; file++) {
            due.same("save of file " + file, x.save(file), 0);
            due.same("it is kept", x.isKept(file, 0), true);
            due.same("versions", x.versions(), file + 1);
        }
    }

    @Sentence(in = "Promise 9", says = "Returns the number of the version.", broken = {
        "int save( ... return number; => return kept.size() - 1;", "int save( ... return number; => return number + 1;"})
    private static void saveNumbersFromNone() {
        DedupVault x = kept(0, 2);
        due.same("the first of file 5", x.save(5), 0);
        due.same("the first of file 0", x.save(0), 0);
        due.same("the second of file 5", x.save(5), 1);
        x.forget(5, 0);
        x.forget(5, 1);
        due.same("the third of file 5, where none is kept", x.save(5), 2);
    }

    @Sentence(in = "Promise 9", says = "Throws `IndexOutOfBoundsException` if there is no such file", broken = {
        "in save: if (file == 6) { file = 5; }", "in save: if (file == -1) { file = 0; }",
        "in save: if (file < -1 || file > 6) { file = 0; }"})
    private static void saveThrowsForFile() {
        DedupVault x = kept(1, 2);
        for (int file : Bounds.NO_FILES) {
            due.thrown("save of file " + file, Due.INDEX, () -> x.save(file));
        }
        due.same("versions", x.versions(), 1);
    }

    @Sentence(in = "Promise 9", says = "Throws `IllegalStateException` if 20 versions are kept", broken = {
        "MOST_KEPT = 20 => MOST_KEPT = 19", "MOST_KEPT = 20 => MOST_KEPT = 21",
        "int save( ... kept.size() >= MOST_KEPT => saves >= MOST_KEPT",
        "int save( ... kept.size() >= MOST_KEPT => kept.size() > 0 && kept.size() % MOST_KEPT == 0 && file == 0"})
    private static void saveThrowsAt20() {
        DedupVault x = kept(19, 2);
        due.same("the 20th", x.save(0), 19);
        for (int file = 0; file <= 5; file++) {
            int full = file;
            due.thrown("the 21st, of file " + file, Due.STATE, () -> x.save(full));
        }
        x.clearDraft();
        due.thrown("the 21st, without bytes", Due.STATE, () -> x.save(1));
        x.forget(0, 7);
        due.same("the 20th again", x.save(1), 0);
        due.thrown("and the 21st", Due.STATE, () -> x.save(1));
    }

    // ---- promise 10: wouldStore

    @Sentence(in = "Promise 10", says = "Returns how many bytes of chunks would be stored if the draft was saved.",
        broken = {"in wouldStore: if (draftLength() == 0) " + Sentence.STATE,
            "in wouldStore: if (draftLength() == 240) { return 208; }", "!shelf.has(piece) => true",
            "in wouldStore: if (versions() == 20) " + Sentence.STATE,
            "in wouldStore: if (versions() == 20) { return 0; }"})
    private static void wouldStoreNoneAllAndAtTwenty() {
        DedupVault x = new DedupVault();
        due.same("of no bytes", x.wouldStore(), 0);
        // seven chunks of 32 and one of 16, no two alike
        for (int start = 1; start <= 193; start += 64) {
            x.append(start, 1, start == 193 ? 48 : 64);
        }
        due.same("of 240 new bytes", x.wouldStore(), 240);
        x.save(2);
        due.same("all of them are stored", x.storedBytes(), 240);
        due.same("of 240 stored bytes", x.wouldStore(), 0);
        DedupVault full = kept(20, 2);
        Drafts.of(full, 2, 1);
        due.same("of one new chunk when no version can be saved", full.wouldStore(), 32);
    }

    @Sentence(in = "Promise 10", says = "Returns how many bytes of chunks would be stored",
        broken = {"int wouldStore( ... !shelf.has(piece) => (shelf.chunkIn(shelf.boxes, piece) == null"
            + " || shelf.chunkIn(shelf.boxes, piece).uses() == 0)",
            "int wouldStore( ... !shelf.has(piece) => shelf.chunkIn(shelf.recent, piece) == null",
            "int collect( ... return shelf.collectGarbage(); => return 0;"})
    private static void wouldStoreOfGarbageAndGone() {
        DedupVault x = kept(1, 1, 3, 5, 7);
        Drafts.save(x, 1, 9, 11, 13, 15);
        Drafts.save(x, 1, 17, 19, 21, 23);
        Drafts.save(x, 1, 25);
        x.forget(0, 0);
        Drafts.of(x, 1, 3, 2);
        due.same("container 0 is not cached", x.cached(2), 1);
        due.same("of garbage, and 8 new bytes", x.wouldStore(), 8);
        due.same("it is garbage still", x.garbage(), 128);
        x.collect();
        due.same("of what is gone, and 8 new bytes", x.wouldStore(), 72);
    }

    @Sentence(in = "Promise 10", says = "a chunk that comes more than once counts once.", broken = {
        "!cameBefore(pieces, i) && => ", "boolean cameBefore( ... for (int i = 0; => for (int i = 1;",
        "boolean cameBefore( ... for (int i = 0; => for (int i = Math.max(0, place - 1);",
        "boolean cameBefore( ... i < place; => i < place - 1;"})
    private static void wouldStoreCountsOnce() {
        DedupVault x = kept(0, 2, 2);
        due.same("the first two alike", x.wouldStore(), 8);
        Drafts.of(x, 2, 4, 4);
        due.same("the last two alike", x.wouldStore(), 16);
        Drafts.of(x, 2, 1, 2);
        due.same("the first and the last alike", x.wouldStore(), 40);
        Bounds.ones(x, 0);
        for (int i = 0; i < 4; i++) {
            x.append(0, 0, i == 3 ? 48 : 64);
        }
        due.same("30 alike", x.wouldStore(), 8);
        due.same("and asked again", x.wouldStore(), 8);
    }

    // ---- promise 11: forget

    @Sentence(in = "Promise 11", says = "`file`: 0 to 5", broken = {"in forget: if (file == 0) " + Sentence.INDEX,
        "in forget: if (file == 5) " + Sentence.INDEX})
    private static void forgetFiles() {
        Bounds.files(due, "forget", (x, f, v) -> x.forget(f, v), 5, 4, 3, 2, 1, 0);
    }

    @Sentence(in = "Promise 11", says = "`version`: a kept version of the file", broken = {
        "in forget: if (version == 0) " + Sentence.INDEX,
        "in forget: if (version == latest(file) && file == 2) " + Sentence.INDEX,
        "in forget: if (version == 2) { version = 3; }"})
    private static void forgetVersions() {
        Bounds.versions(due, "forget", (x, f, v) -> x.forget(f, v) + (x.isKept(f, v) ? 100 : 0), 3, 2, 1);
        DedupVault x = Bounds.someVersions();
        due.same("forget the latest", x.forget(2, 3), 3);
        due.same("it is not kept", x.isKept(2, 3), false);
        due.same("the others are", x.isKept(2, 0) && x.isKept(2, 2) && x.isKept(3, 0), true);
    }

    @Sentence(in = "Promise 11", says = "Returns how many versions are kept then, of all files.", broken = {
        "int forget( ... return kept.size(); => return kept.size() + 1;",
        "int forget( ... return kept.size(); => return Math.max(1, kept.size());",
        "int forget( ... return kept.size(); => return latest(file) + 1;"})
    private static void forgetCountsAllFiles() {
        DedupVault x = kept(19, 2);
        x.save(4);
        due.same("one of 20", x.forget(0, 18), 19);
        for (int i = 17; i >= 0; i--) {
            x.forget(0, i);
        }
        due.same("the other file's is kept", x.versions(), 1);
        due.same("the last one", x.forget(4, 0), 0);
    }

    @Sentence(in = "Promise 11", says = "if there is no such file or", broken = {
        "in forget: if (file == 6) { return versions(); }", "in forget: if (file == -1) { file = 0; }",
        "in forget: if (file < -1 || file > 6) { return versions(); }"})
    private static void forgetThrowsForFile() {
        Bounds.noSuchFile(due, "forget", (x, f, v) -> x.forget(f, v));
    }

    @Sentence(in = "Promise 11", says = "no such file or kept version", broken = {
        "in forget: if (!isKept(file, version) && version > 0 && version < 5) { return versions(); }",
        "in forget: if (version == -1) { version = latest(file); }", "in forget: if (version == 5) { version = 3; }"})
    private static void forgetThrowsForVersion() {
        Bounds.noSuchVersion(due, "forget", (x, f, v) -> x.forget(f, v));
        DedupVault x = kept(1, 2);
        x.forget(0, 0);
        due.thrown("twice", Due.INDEX, () -> x.forget(0, 0));
        due.thrown("of a new object", Due.INDEX, () -> new DedupVault().forget(0, 0));
    }

    // ---- promise 12: collect

    @Sentence(in = "Promise 12", says = "Returns how many bytes of garbage are gone.", broken = {
        "in collect: if (chunks() == 0) " + Sentence.STATE, "in collect: if (versions() == 0) { return 0; }",
        "freed += box.filled() - needed; => freed += box.filled();",
        "int collect( ... return shelf.collectGarbage(); => int all = garbage(); shelf.collectGarbage(); return all;",
        "freed += box.filled() - needed; => freed = box.filled() - needed;"})
    private static void collectNoneSomeAndAll() {
        due.same("of a new object", new DedupVault().collect(), 0);
        DedupVault x = kept(1, 1, 3, 5, 7);
        Drafts.save(x, 1, 9, 11, 13, 15);
        Drafts.save(x, 2, 17);
        Drafts.save(x, 3, 1);
        due.same("where nothing is garbage", x.collect(), 0);
        x.forget(2, 0);
        due.same("where garbage lies in the open container alone", x.collect(), 0);
        x.forget(0, 0);
        x.forget(1, 0);
        due.same("garbage", x.garbage(), 256);
        due.same("96 of one and 128 of another, none of the open one", x.collect(), 224);
        due.same("and again", x.collect(), 0);
        due.same("garbage of the open one", x.garbage(), 32);
        DedupVault none = kept(1, 1, 3, 5, 7);
        Drafts.save(none, 0, 9);
        none.forget(0, 0);
        none.forget(0, 1);
        due.same("where no version is kept", none.collect(), 128);
    }
}
