/** Promises 13 to 23, sentence by sentence: what each says of a boundary case. */
public final class VersionsBoundsTest {
    private static final Due due = new Due("VersionsBoundsTest");
    private static final int MIN = Integer.MIN_VALUE;
    private static final int MAX = Integer.MAX_VALUE;

    public static void main(String[] args) {
        Sentences.run(VersionsBoundsTest.class);
        due.end();
    }

    /** Version 0 of file 1 has no bytes, version 1 has 1, version 2 has 240 zeros. */
    private static DedupVault lengths() {
        DedupVault x = new DedupVault();
        x.save(1);
        x.append(7, 0, 1);
        x.save(1);
        x.clearDraft();
        for (int i = 0; i < 4; i++) {
            x.append(0, 0, i == 3 ? 48 : 64);
        }
        x.save(1);
        return x;
    }

    /** As many versions of file 0, each a difference to the one before if it may be. */
    private static DedupVault alike(int many) {
        DedupVault x = new DedupVault();
        Bounds.stairs(x, 3);
        for (int i = 0; i < many; i++) {
            x.save(0);
        }
        return x;
    }

    // ---- promises 13 to 15: versions, isKept, latest

    @Sentence(in = "Promise 13", says = "Returns how many versions are kept, of all files.", broken = {
        "in versions: if (kept.size() == 20) { return 19; }", "in versions: if (kept.size() == 0) { return 1; }",
        "in versions: if (true) { return latest(0) + 1; }", "in versions: if (true) { return saves; }"})
    private static void versionsNoneAndTwenty() {
        DedupVault x = new DedupVault();
        due.same("none", x.versions(), 0);
        for (int i = 0; i < 20; i++) {
            x.save(i % 6);
            due.same("versions", x.versions(), i + 1);
        }
        due.thrown("the 21st", Due.STATE, () -> x.save(0));
        due.same("versions still", x.versions(), 20);
        x.forget(0, 0);
        due.same("one forgotten", x.versions(), 19);
    }

    @Sentence(in = "Promise 14", says = "`file`: 0 to 5", broken = {"in isKept: if (file == 0) " + Sentence.INDEX,
        "in isKept: if (file == 5) " + Sentence.INDEX, "in isKept: if (file == 5) { return false; }"})
    private static void isKeptFiles() {
        Bounds.files(due, "isKept", (x, f, v) -> x.isKept(f, v) ? 1 : 0, 1, 1, 1, 1, 1, 1);
        for (int file = 0; file <= 5; file++) {
            due.same("isKept of a new object", new DedupVault().isKept(file, 0), false);
        }
    }

    @Sentence(in = "Promise 14", says = "`version`: any number", broken = {
        "in isKept: if (version == -1) " + Sentence.INDEX, "in isKept: if (version == -1) { return true; }",
        "in isKept: if (version > 511) " + Sentence.INDEX, "in isKept: if (version < -1) { version = 0; }",
        "in isKept: if (version == 1 || version == 4) " + Sentence.INDEX,
        "in isKept: if (version >= 0) { return version <= latest(file); }",
        "in isKept: if (version == 5) { return file == 2; }"})
    private static void isKeptVersions() {
        DedupVault x = Bounds.someVersions();
        boolean[] kept = {true, false, true, true, false, false};
        for (int version = 0; version < kept.length; version++) {
            due.same("isKept 2." + version, x.isKept(2, version), kept[version]);
            due.same("isKept 3." + version, x.isKept(3, version), version == 0);
        }
        for (int version : new int[] {-1, -2, 20, 512, MIN, MAX}) {
            due.same("isKept 2." + version, x.isKept(2, version), false);
        }
    }

    @Sentence(in = "Promise 14", says = "Throws `IndexOutOfBoundsException` if there is no such file", broken = {
        "in isKept: if (file == 6) { return false; }", "in isKept: if (file == -1) { return false; }",
        "in isKept: if (file < -1 || file > 6) { return false; }"})
    private static void isKeptThrows() {
        Bounds.noSuchFile(due, "isKept", (x, f, v) -> x.isKept(f, v) ? 1 : 0);
        Bounds.noSuchFile(due, "isKept of no version", (x, f, v) -> x.isKept(f, -1) ? 1 : 0);
    }

    @Sentence(in = "Promise 15", says = "`file`: 0 to 5", broken = {"in latest: if (file == 0) " + Sentence.INDEX,
        "in latest: if (file == 5) " + Sentence.INDEX, "in latest: if (file == 5) { return -1; }"})
    private static void latestFiles() {
        Bounds.files(due, "latest", (x, f, v) -> x.latest(f), 0, 0, 0, 0, 0, 0);
        for (int file = 0; file <= 5; file++) {
            due.same("latest of a new object", new DedupVault().latest(file), -1);
        }
    }

    @Sentence(in = "Promise 15", says = "Returns the version; NONE if none is kept.", broken = {
        "version == null ? NONE => version == null ? 0", "in latest: if (file < 6) { return nextNumbers[file] - 1; }",
        "in latest: if (versions() == 0) " + Sentence.INDEX})
    private static void latestNone() {
        DedupVault x = alike(3);
        due.same("of three", x.latest(0), 2);
        x.forget(0, 2);
        due.same("with the last one forgotten", x.latest(0), 1);
        x.forget(0, 0);
        due.same("with the first one forgotten", x.latest(0), 1);
        x.forget(0, 1);
        due.same("with all forgotten", x.latest(0), -1);
        due.same("of a file that was never saved", x.latest(1), -1);
        x.save(0);
        due.same("saved again", x.latest(0), 3);
    }

    @Sentence(in = "Promise 15", says = "Throws `IndexOutOfBoundsException` if there is no such file", broken = {
        "in latest: if (file == 6) { return -1; }", "in latest: if (file == -1) { return -1; }",
        "in latest: if (file < -1 || file > 6) { return -1; }"})
    private static void latestThrows() {
        Bounds.noSuchFile(due, "latest", (x, f, v) -> x.latest(f));
    }

    // ---- promise 16: length

    @Sentence(in = "Promise 16", says = "`file`: 0 to 5", broken = {"in length: if (file == 0) " + Sentence.INDEX,
        "in length: if (file == 5) " + Sentence.INDEX})
    private static void lengthFiles() {
        Bounds.files(due, "length", DedupVault::length, 8, 16, 24, 32, 40, 48);
    }

    @Sentence(in = "Promise 16", says = "`version`: a kept version of the file", broken = {
        "in length: if (version == 0) " + Sentence.INDEX, "in length: if (version == 3) { version = 2; }",
        "in length: if (version == latest(file)) " + Sentence.INDEX})
    private static void lengthVersions() {
        Bounds.versions(due, "length", DedupVault::length, 8, 24, 32);
    }

    @Sentence(in = "Promise 16", says = "Returns how many bytes it has.", broken = {
        "in length: if (chunksOf(file, version) == 0) " + Sentence.INDEX,
        "in length: if (chunksOf(file, version) == 30) { return 239; }"})
    private static void lengthNoneAnd240() {
        DedupVault x = lengths();
        due.same("of none", x.length(1, 0), 0);
        due.same("of 1", x.length(1, 1), 1);
        due.same("of 240", x.length(1, 2), 240);
    }

    @Sentence(in = "Promise 16", says = "if there is no such file or", broken = {
        "in length: if (file == 6) { return 0; }", "in length: if (file == -1) { file = 0; }",
        "in length: if (file < -1 || file > 6) { return 0; }"})
    private static void lengthThrowsForFile() {
        Bounds.noSuchFile(due, "length", DedupVault::length);
    }

    @Sentence(in = "Promise 16", says = "no such file or kept version", broken = {
        "in length: if (version == 1 || version == 4) { return 0; }", "in length: if (version == -1) { version = 0; }",
        "in length: if (version == 5) { return 0; }"})
    private static void lengthThrowsForVersion() {
        Bounds.noSuchVersion(due, "length", DedupVault::length);
    }

    // ---- promise 17: byteAt

    @Sentence(in = "Promise 17", says = "`file`: 0 to 5", broken = {"in byteAt: if (file == 0) " + Sentence.INDEX,
        "in byteAt: if (file == 5) " + Sentence.INDEX})
    private static void byteAtFiles() {
        Bounds.files(due, "byteAt", (x, f, v) -> x.byteAt(f, v, 8 * f + 7), 0, 2, 4, 6, 8, 10);
    }

    @Sentence(in = "Promise 17", says = "`version`: a kept version of the file", broken = {
        "in byteAt: if (version == 0) " + Sentence.INDEX, "in byteAt: if (version == 3) { version = 2; }",
        "in byteAt: if (version == latest(file)) " + Sentence.INDEX})
    private static void byteAtVersions() {
        Bounds.versions(due, "byteAt", (x, f, v) -> x.byteAt(f, v, 8 * v + 7), 0, 4, 6);
    }

    @Sentence(in = "Promise 17", says = "`place`: 0 or more, less than length()", broken = {
        "in byteAt: if (place == 0) " + Sentence.INDEX,
        "in byteAt: if (place == length(file, version) - 1) " + Sentence.INDEX, "left < bytes.size() => left <= bytes.size()",
        "in byteAt: if (place == 41) { place = 42; }"})
    private static void byteAtPlaces() {
        DedupVault x = chunksOf8And32And2();
        int[][] wanted = {{0, 2}, {7, 2}, {8, 9}, {39, 9}, {40, 100}, {41, 101}};
        for (int[] a : wanted) {
            due.same("byteAt " + a[0], x.byteAt(0, 0, a[0]), a[1]);
        }
        due.same("byteAt the one", lengths().byteAt(1, 1, 0), 7);
        due.same("byteAt the 240th", lengths().byteAt(1, 2, 239), 0);
    }

    @Sentence(in = "Promise 17", says = "Returns 0 to 255.", broken = {
        "return found.restored(place); => return (byte) found.restored(place);",
        "return found.restored(place); => return Math.max(1, found.restored(place));"})
    private static void byteAtValues() {
        DedupVault x = values();
        for (int i = 0; i < 128; i++) {
            due.same("byteAt " + i, x.byteAt(0, 0, i), i < 64 ? i : i + 128);
        }
    }

    @Sentence(in = "Promise 17", says = "if there is no such file,", broken = {
        "in byteAt: if (file == 6) { return 0; }", "in byteAt: if (file == -1) { file = 0; }",
        "in byteAt: if (file < -1 || file > 6) { return 0; }"})
    private static void byteAtThrowsForFile() {
        Bounds.noSuchFile(due, "byteAt", (x, f, v) -> x.byteAt(f, v, 0));
    }

    @Sentence(in = "Promise 17", says = "kept version or byte", broken = {
        "in byteAt: if (version == 1 || version == 4) { return 0; }", "in byteAt: if (version == -1) { version = 0; }",
        "in byteAt: if (version == 5) { return 0; }"})
    private static void byteAtThrowsForVersion() {
        Bounds.noSuchVersion(due, "byteAt", (x, f, v) -> x.byteAt(f, v, 0));
    }

    @Sentence(in = "Promise 17", says = "version or byte", broken = {"in byteAt: if (place == -1) { place = 0; }",
        "in byteAt: if (place == length(file, version)) { return 0; }",
        "in byteAt: if (place > length(file, version)) { return 0; }", "in byteAt: if (place < -1) { place = 0; }"})
    private static void byteAtThrowsForByte() {
        noSuchByte("byteAt", (x, version, place) -> x.byteAt(1, version, place));
    }

    // ---- promise 18: byteByCopy

    @Sentence(in = "Promise 18", says = "which is the draft as it was when it was saved.",
        broken = "this.copy = new Row(bytes.size()); => this.copy = bytes; ## "
            + "this.copy.addPart(bytes, 0, bytes.size()); => ;")
    private static void byteByCopyOfAChangedDraft() {
        DedupVault x = new DedupVault();
        x.append(1, 1, 60);
        x.save(0);
        x.cut(0, 1);
        x.insert(59, 0);
        due.same("the first one, which was cut", x.byteByCopy(0, 0, 0), 1);
        due.same("the last one, behind which another was put", x.byteByCopy(0, 0, 59), 60);
        x.clearDraft();
        due.same("with the draft cleared", x.byteByCopy(0, 0, 59), 60);
    }

    @Sentence(in = "Promise 18", says = "`file`: 0 to 5", broken = {"in byteByCopy: if (file == 0) " + Sentence.INDEX,
        "in byteByCopy: if (file == 5) " + Sentence.INDEX})
    private static void byteByCopyFiles() {
        Bounds.files(due, "byteByCopy", (x, f, v) -> x.byteByCopy(f, v, 8 * f + 7), 0, 2, 4, 6, 8, 10);
    }

    @Sentence(in = "Promise 18", says = "`version`: a kept version of the file", broken = {
        "in byteByCopy: if (version == 0) " + Sentence.INDEX, "in byteByCopy: if (version == 3) { version = 2; }",
        "in byteByCopy: if (version == latest(file)) " + Sentence.INDEX})
    private static void byteByCopyVersions() {
        Bounds.versions(due, "byteByCopy", (x, f, v) -> x.byteByCopy(f, v, 8 * v + 7), 0, 4, 6);
    }

    @Sentence(in = "Promise 18", says = "`place`: 0 or more, less than length()", broken = {
        "in byteByCopy: if (place == 0) " + Sentence.INDEX,
        "in byteByCopy: if (place == length(file, version) - 1) " + Sentence.INDEX,
        "in byteByCopy: if (place == 41) { place = 40; }"})
    private static void byteByCopyPlaces() {
        DedupVault x = chunksOf8And32And2();
        int[][] wanted = {{0, 2}, {7, 2}, {8, 9}, {39, 9}, {40, 100}, {41, 101}};
        for (int[] a : wanted) {
            due.same("byteByCopy " + a[0], x.byteByCopy(0, 0, a[0]), a[1]);
        }
        due.same("byteByCopy the one", lengths().byteByCopy(1, 1, 0), 7);
        due.same("byteByCopy the 240th", lengths().byteByCopy(1, 2, 239), 0);
    }

    @Sentence(in = "Promise 18", says = "Returns the same as byteAt().", broken = {
        "int byteByCopy( ... return copy.get(place); => return (byte) copy.get(place);",
        "int byteByCopy( ... return copy.get(place); => return copy.get(place) + place / 127;"})
    private static void byteByCopyValues() {
        DedupVault x = values();
        for (int i = 0; i < 128; i++) {
            due.same("byteByCopy " + i, x.byteByCopy(0, 0, i), i < 64 ? i : i + 128);
            due.same("is byteAt " + i, x.byteByCopy(0, 0, i), x.byteAt(0, 0, i));
        }
    }

    @Sentence(in = "Promise 18", says = "if there is no such file,", broken = {
        "in byteByCopy: if (file == 6) { return 0; }", "in byteByCopy: if (file == -1) { file = 0; }",
        "in byteByCopy: if (file < -1 || file > 6) { return 0; }"})
    private static void byteByCopyThrowsForFile() {
        Bounds.noSuchFile(due, "byteByCopy", (x, f, v) -> x.byteByCopy(f, v, 0));
    }

    @Sentence(in = "Promise 18", says = "kept version or byte", broken = {
        "in byteByCopy: if (version == 1 || version == 4) { return 0; }",
        "in byteByCopy: if (version == -1) { version = 0; }", "in byteByCopy: if (version == 5) { return 0; }"})
    private static void byteByCopyThrowsForVersion() {
        Bounds.noSuchVersion(due, "byteByCopy", (x, f, v) -> x.byteByCopy(f, v, 0));
    }

    @Sentence(in = "Promise 18", says = "version or byte", broken = {"in byteByCopy: if (place == -1) { place = 0; }",
        "in byteByCopy: if (place == length(file, version)) { return 0; }",
        "in byteByCopy: if (place > length(file, version)) { return 0; }", "in byteByCopy: if (place < -1) { place = 0; }"})
    private static void byteByCopyThrowsForByte() {
        noSuchByte("byteByCopy", (x, version, place) -> x.byteByCopy(1, version, place));
    }

    /** A call that asks something at a place of a version. */
    private interface AskedAt {
        long of(DedupVault x, int version, int place);
    }

    private static void noSuchByte(String what, AskedAt call) {
        DedupVault x = lengths();
        int[] lengths = {0, 1, 240};
        for (int version = 0; version < lengths.length; version++) {
            for (int place : new int[] {-1, lengths[version], lengths[version] + 1, 241, MIN, MAX}) {
                int v = version;
                due.thrown(what + " " + place + " of " + lengths[v], Due.INDEX, () -> call.of(x, v, place));
            }
        }
    }

    private static DedupVault chunksOf8And32And2() {
        DedupVault x = new DedupVault();
        Drafts.of(x, 2, 9);
        x.append(100, 1, 2);
        x.save(0);
        return x;
    }

    /** Version 0 of file 0 has the bytes 0 to 63 and 192 to 255. */
    private static DedupVault values() {
        DedupVault x = new DedupVault();
        x.append(0, 1, 64);
        x.append(192, 1, 64);
        x.save(0);
        return x;
    }

    // ---- promises 19 and 20: chunksOf, chunkAt

    @Sentence(in = "Promise 19", says = "`file`: 0 to 5", broken = {"in chunksOf: if (file == 0) " + Sentence.INDEX,
        "in chunksOf: if (file == 5) " + Sentence.INDEX})
    private static void chunksOfFiles() {
        Bounds.files(due, "chunksOf", DedupVault::chunksOf, 1, 2, 3, 4, 5, 6);
    }

    @Sentence(in = "Promise 19", says = "`version`: a kept version of the file", broken = {
        "in chunksOf: if (version == 0) " + Sentence.INDEX, "in chunksOf: if (version == 3) { version = 2; }",
        "in chunksOf: if (version == latest(file)) " + Sentence.INDEX})
    private static void chunksOfVersions() {
        Bounds.versions(due, "chunksOf", DedupVault::chunksOf, 1, 3, 4);
    }

    @Sentence(in = "Promise 19", says = "Returns how many, each time counted.", broken = {
        "in chunksOf: if (length(file, version) == 0) { return 1; }",
        "in chunksOf: if (length(file, version) == 240) { return 1; }",
        "int chunksOf( ... .entryCount(); => .entryCount() - (chunks() - 1) / 2;"})
    private static void chunksOfNoneAndThirtyAlike() {
        DedupVault x = lengths();
        due.same("of no bytes", x.chunksOf(1, 0), 0);
        due.same("of 1 byte", x.chunksOf(1, 1), 1);
        due.same("30 times one chunk", x.chunksOf(1, 2), 30);
        due.same("which are two that are stored", x.chunks(), 2);
        Drafts.save(x, 0, 2, 4, 2);
        due.same("the first and the last alike", x.chunksOf(0, 0), 3);
    }

    @Sentence(in = "Promise 19", says = "if there is no such file or", broken = {
        "in chunksOf: if (file == 6) { return 0; }", "in chunksOf: if (file == -1) { file = 0; }",
        "in chunksOf: if (file < -1 || file > 6) { return 0; }"})
    private static void chunksOfThrowsForFile() {
        Bounds.noSuchFile(due, "chunksOf", DedupVault::chunksOf);
    }

    @Sentence(in = "Promise 19", says = "no such file or kept version", broken = {
        "in chunksOf: if (version == 1 || version == 4) { return 0; }",
        "in chunksOf: if (version == -1) { version = 0; }", "in chunksOf: if (version == 5) { return 0; }"})
    private static void chunksOfThrowsForVersion() {
        Bounds.noSuchVersion(due, "chunksOf", DedupVault::chunksOf);
    }

    @Sentence(in = "Promise 20", says = "`file`: 0 to 5", broken = {"in chunkAt: if (file == 0) " + Sentence.INDEX,
        "in chunkAt: if (file == 5) " + Sentence.INDEX})
    private static void chunkAtFiles() {
        Bounds.files(due, "chunkAt", (x, f, v) -> x.chunkAt(f, v, f), 0, 1, 2, 3, 4, 5);
    }

    @Sentence(in = "Promise 20", says = "`version`: a kept version of the file", broken = {
        "in chunkAt: if (version == 0) " + Sentence.INDEX, "in chunkAt: if (version == 3) { version = 2; }",
        "in chunkAt: if (version == latest(file)) " + Sentence.INDEX})
    private static void chunkAtVersions() {
        Bounds.versions(due, "chunkAt", (x, f, v) -> x.chunkAt(f, v, v), 0, 2, 3);
    }

    @Sentence(in = "Promise 20", says = "`place`: 0 or more, less than chunksOf()", broken = {
        "in chunkAt: if (place == 0) " + Sentence.INDEX,
        "in chunkAt: if (place == chunksOf(file, version) - 1) " + Sentence.INDEX,
        "in chunkAt: if (place == 29) { place = 28; }", "in chunkAt: if (place == 0) { place = 1; }"})
    private static void chunkAtPlaces() {
        DedupVault x = new DedupVault();
        for (int n = 0; n < 30; n++) {
            x.append(2 * n, 0, 8);
        }
        x.save(0);
        due.same("of 0", x.chunkAt(0, 0, 0), 0);
        due.same("of 1", x.chunkAt(0, 0, 1), 1);
        due.same("of 28", x.chunkAt(0, 0, 28), 28);
        due.same("of 29", x.chunkAt(0, 0, 29), 29);
        due.same("of the one", lengths().chunkAt(1, 1, 0), 0);
    }

    @Sentence(in = "Promise 20", says = "if there is no such file,", broken = {
        "in chunkAt: if (file == 6) { return 0; }", "in chunkAt: if (file == -1) { file = 0; }",
        "in chunkAt: if (file < -1 || file > 6) { return 0; }"})
    private static void chunkAtThrowsForFile() {
        Bounds.noSuchFile(due, "chunkAt", (x, f, v) -> x.chunkAt(f, v, 0));
    }

    @Sentence(in = "Promise 20", says = "kept version or place", broken = {
        "in chunkAt: if (version == 1 || version == 4) { return 0; }",
        "in chunkAt: if (version == -1) { version = 0; }", "in chunkAt: if (version == 5) { return 0; }"})
    private static void chunkAtThrowsForVersion() {
        Bounds.noSuchVersion(due, "chunkAt", (x, f, v) -> x.chunkAt(f, v, 0));
    }

    @Sentence(in = "Promise 20", says = "version or place", broken = {"in chunkAt: if (place == -1) { return -1; }",
        "in chunkAt: if (place == chunksOf(file, version)) { return -1; }",
        "in chunkAt: if (place > chunksOf(file, version)) { return -1; }", "in chunkAt: if (place < -1) { return -1; }"})
    private static void chunkAtThrowsForPlace() {
        DedupVault x = lengths();
        int[] counts = {0, 1, 30};
        for (int version = 0; version < counts.length; version++) {
            for (int place : new int[] {-1, counts[version], counts[version] + 1, 31, 240, MIN, MAX}) {
                int v = version;
                due.thrown("chunkAt " + place + " of " + counts[v], Due.INDEX, () -> x.chunkAt(1, v, place));
            }
        }
    }

    // ---- promises 21 to 23: baseOf, chainOf, costOf

    @Sentence(in = "Promise 21", says = "`file`: 0 to 5", broken = {"in baseOf: if (file == 0) " + Sentence.INDEX,
        "in baseOf: if (file == 5) " + Sentence.INDEX})
    private static void baseOfFiles() {
        Bounds.files(due, "baseOf", DedupVault::baseOf, -1, -1, -1, -1, -1, -1);
    }

    @Sentence(in = "Promise 21", says = "`version`: a kept version of the file", broken = {
        "in baseOf: if (version == 0) " + Sentence.INDEX, "in baseOf: if (version == 3) { version = 2; }",
        "in baseOf: if (version == latest(file)) " + Sentence.INDEX})
    private static void baseOfVersions() {
        Bounds.versions(due, "baseOf", DedupVault::baseOf, -1, -1, 2);
    }

    @Sentence(in = "Promise 21", says = "Returns the version to which it is kept as a difference; NONE if it is kept in full.",
        broken = {"version == null ? NONE => version == null ? 0",
            "in baseOf: if (chainOf(file, version) == 0) { return version; }",
            "in baseOf: if (version == 1) { return -1; }", "in baseOf: if (true) { return version - 1; }"})
    private static void baseOfNoneAndZero() {
        DedupVault x = alike(5);
        due.same("of the first one", x.baseOf(0, 0), -1);
        due.same("of a difference to version 0", x.baseOf(0, 1), 0);
        due.same("of the last one of a chain", x.baseOf(0, 3), 2);
        due.same("of one whose chain would be too long", x.baseOf(0, 4), -1);
        x.forget(0, 0);
        due.same("of one whose base is forgotten", x.baseOf(0, 1), -1);
    }

    @Sentence(in = "Promise 21", says = "if there is no such file or", broken = {
        "in baseOf: if (file == 6) { return -1; }", "in baseOf: if (file == -1) { file = 0; }",
        "in baseOf: if (file < -1 || file > 6) { return -1; }"})
    private static void baseOfThrowsForFile() {
        Bounds.noSuchFile(due, "baseOf", DedupVault::baseOf);
    }

    @Sentence(in = "Promise 21", says = "no such file or kept version", broken = {
        "in baseOf: if (version == 1 || version == 4) { return -1; }", "in baseOf: if (version == -1) { return -1; }",
        "in baseOf: if (version == 5) { return -1; }"})
    private static void baseOfThrowsForVersion() {
        Bounds.noSuchVersion(due, "baseOf", DedupVault::baseOf);
    }

    @Sentence(in = "Promise 22", says = "`file`: 0 to 5", broken = {"in chainOf: if (file == 0) " + Sentence.INDEX,
        "in chainOf: if (file == 5) " + Sentence.INDEX})
    private static void chainOfFiles() {
        Bounds.files(due, "chainOf", DedupVault::chainOf, 0, 0, 0, 0, 0, 0);
    }

    @Sentence(in = "Promise 22", says = "`version`: a kept version of the file", broken = {
        "in chainOf: if (version == 0) " + Sentence.INDEX, "in chainOf: if (version == 3) { version = 2; }",
        "in chainOf: if (version == latest(file)) " + Sentence.INDEX})
    private static void chainOfVersions() {
        Bounds.versions(due, "chainOf", DedupVault::chainOf, 0, 0, 1);
    }

    @Sentence(in = "Promise 22", says = "Returns 0 to 3.", broken = {"LONGEST_CHAIN = 3 => LONGEST_CHAIN = 4",
        "LONGEST_CHAIN = 3 => LONGEST_CHAIN = 2", "int links = 0; => int links = 1;"})
    private static void chainOfZeroToThree() {
        DedupVault x = alike(9);
        int[] chains = {0, 1, 2, 3, 0, 1, 2, 3, 0};
        for (int version = 0; version < chains.length; version++) {
            due.same("chainOf " + version, x.chainOf(0, version), chains[version]);
        }
    }

    @Sentence(in = "Promise 22", says = "if there is no such file or", broken = {
        "in chainOf: if (file == 6) { return 0; }", "in chainOf: if (file == -1) { file = 0; }",
        "in chainOf: if (file < -1 || file > 6) { return 0; }"})
    private static void chainOfThrowsForFile() {
        Bounds.noSuchFile(due, "chainOf", DedupVault::chainOf);
    }

    @Sentence(in = "Promise 22", says = "no such file or kept version", broken = {
        "in chainOf: if (version == 1 || version == 4) { return 0; }", "in chainOf: if (version == -1) { return 0; }",
        "in chainOf: if (version == 5) { return 0; }"})
    private static void chainOfThrowsForVersion() {
        Bounds.noSuchVersion(due, "chainOf", DedupVault::chainOf);
    }

    @Sentence(in = "Promise 23", says = "`file`: 0 to 5", broken = {"in costOf: if (file == 0) " + Sentence.INDEX,
        "in costOf: if (file == 5) " + Sentence.INDEX})
    private static void costOfFiles() {
        Bounds.files(due, "costOf", DedupVault::costOf, 1, 2, 3, 4, 5, 6);
    }

    @Sentence(in = "Promise 23", says = "`version`: a kept version of the file", broken = {
        "in costOf: if (version == 0) " + Sentence.INDEX, "in costOf: if (version == 3) { version = 0; }",
        "in costOf: if (version == latest(file)) " + Sentence.INDEX})
    private static void costOfVersions() {
        Bounds.versions(due, "costOf", DedupVault::costOf, 1, 3, 3);
    }

    @Sentence(in = "Promise 23", says = "Returns the cost in full, or as a difference to its base.", broken = {
        "in costOf: if (length(file, version) == 0) { return 2; }", "in costOf: if (true) { return chunksOf(file, version); }",
        "in costOf: if (version > 0) { return 2; }", "DIFFERENCE_EXTRA = 2 => DIFFERENCE_EXTRA = 1"})
    private static void costOfLeastAndMost() {
        DedupVault x = lengths();
        due.same("of no chunks", x.costOf(1, 0), 0);
        due.same("of one chunk", x.costOf(1, 1), 1);
        due.same("of 30 chunks in full", x.costOf(1, 2), 30);
        x.save(1);
        due.same("of 30 chunks as a difference", x.costOf(1, 3), 2);
        x.forget(1, 2);
        due.same("of them, with the base forgotten", x.costOf(1, 3), 30);
    }

    @Sentence(in = "Promise 23", says = "if there is no such file or", broken = {
        "in costOf: if (file == 6) { return 0; }", "in costOf: if (file == -1) { file = 0; }",
        "in costOf: if (file < -1 || file > 6) { return 0; }"})
    private static void costOfThrowsForFile() {
        Bounds.noSuchFile(due, "costOf", DedupVault::costOf);
    }

    @Sentence(in = "Promise 23", says = "no such file or kept version", broken = {
        "in costOf: if (version == 1 || version == 4) { return 0; }", "in costOf: if (version == -1) { return 0; }",
        "in costOf: if (version == 5) { return 0; }"})
    private static void costOfThrowsForVersion() {
        Bounds.noSuchVersion(due, "costOf", DedupVault::costOf);
    }
}
