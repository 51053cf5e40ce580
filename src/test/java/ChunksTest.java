/** Promises 24 to 34: stored chunks, containers, the cache and its counts. */
public final class ChunksTest {
    private static final Due due = new Due("ChunksTest");

    public static void main(String[] args) {
        noSuchChunk();
        numbersAndLengths();
        fingerprints();
        likeFingerprints();
        likeFingerprintsOfOtherLengths();
        likeFingerprintsOfFirstBytes();
        references();
        packing();
        packingToTheBrim();
        cacheOrder();
        cachedThrows();
        hitsAndReads();
        due.end();
    }

    private static void noSuchChunk() {
        DedupVault x = new DedupVault();
        int[] none = {-1, 0, 1, Integer.MIN_VALUE, Integer.MAX_VALUE};
        missing(x, none);
        Drafts.save(x, 0, 1, 3, 5, 7);
        Drafts.save(x, 1, 9);
        due.same("isStored the last", x.isStored(4), true);
        missing(x, new int[] {-1, 5, Integer.MIN_VALUE, Integer.MAX_VALUE});
        x.forget(0, 0);
        due.same("garbage is stored", x.isStored(0), true);
        due.same("chunkLength of garbage", x.chunkLength(3), 32);
        x.collect();
        missing(x, new int[] {-1, 0, 1, 2, 3, 5});
        due.same("isStored the last", x.isStored(4), true);
        due.same("chunks", x.chunks(), 1);
    }

    private static void missing(DedupVault x, int[] numbers) {
        for (int chunk : numbers) {
            due.same("isStored " + chunk, x.isStored(chunk), false);
            due.thrown("chunkLength " + chunk, Due.INDEX, () -> x.chunkLength(chunk));
            due.thrown("fingerprint " + chunk, Due.INDEX, () -> x.fingerprint(chunk));
            due.thrown("references " + chunk, Due.INDEX, () -> x.references(chunk));
            due.thrown("containerOf " + chunk, Due.INDEX, () -> x.containerOf(chunk));
        }
    }

    private static void numbersAndLengths() {
        DedupVault x = new DedupVault();
        Drafts.of(x, 2, 1, 2, 4);
        x.append(9, 0, 1);
        x.save(0);
        due.same("chunks", x.chunks(), 4);
        int[] lengths = {8, 32, 8, 1};
        for (int i = 0; i < lengths.length; i++) {
            due.same("chunkLength " + i, x.chunkLength(i), lengths[i]);
        }
        x.append(9, 0, 1);
        x.save(0);
        due.same("a longer one is another", x.chunks(), 5);
        due.same("chunkLength 4", x.chunkLength(4), 2);
        x.save(1);
        due.same("the same in another file is none", x.chunks(), 5);
    }

    private static void fingerprints() {
        DedupVault x = new DedupVault();
        x.append(0, 0, 1);
        due.same("fingerprint of a 0", saved(x), 256 + 1);
        x.append(255, 0, 1);
        // 1 + 255 is 256, which is 5 modulo 251; b is 0 + 5
        due.same("fingerprint of a 255", saved(x), 256 * 5 + 5);
        x.append(1, 1, 3);
        // a: 2, 4, 7; b: 2, 6, 13
        due.same("fingerprint of 1, 2, 3", saved(x), 256 * 13 + 7);
        x.append(250, 0, 1);
        // 1 + 250 is 0 modulo 251
        due.same("fingerprint of a 250", saved(x), 0);
        x.append(249, 1, 2);
        // a: 250, then 500 - 251 is 249; b: 250, then 499 - 251 is 248
        due.same("fingerprint of 249, 250", saved(x), 256 * 248 + 249);
        x.append(2, 0, 8);
        // a: 3, 5, 7, 9, 11, 13, 15, 17; b is their sum
        due.same("fingerprint of 8 twos", saved(x), 256 * 80 + 17);
    }

    private static int saved(DedupVault x) {
        int version = x.save(0);
        int mark = x.fingerprint(x.chunkAt(0, version, 0));
        x.clearDraft();
        return mark;
    }

    /** Chunks that differ only by a 0 and a 251 have one fingerprint, and are two all the same. */
    @Sentence(in = "Chunks", says = "different chunks can have the same one.", broken = {
        "if (source.get(from + i) != other.source.get(other.from + i)) { => if (false) {",
        "for (int i = 0; i < size; i++) {\n                if (source => for (int i = 0; i < size - 1; i++) {\n"
            + "                if (source"})
    private static void likeFingerprints() {
        DedupVault x = new DedupVault();
        x.append(1, 0, 3);
        x.append(0, 0, 1);
        x.save(0);
        x.cut(3, 1);
        x.append(251, 0, 1);
        due.same("wouldStore", x.wouldStore(), 4);
        x.save(0);
        due.same("chunks", x.chunks(), 2);
        due.same("one fingerprint", x.fingerprint(0), x.fingerprint(1));
        due.same("its byte", x.byteAt(0, 0, 3), 0);
        due.same("its byte", x.byteAt(0, 1, 3), 251);
        due.same("no hit", x.cacheHits(), 0);
    }

    /** With 250 the a of a fingerprint is 0 modulo 251, and a 0 behind it changes neither a nor b. */
    @Sentence(in = "Chunks", says = "different chunks can have the same one.", broken = {
        "mark != other.mark || size != other.size => mark != other.mark",
        "mark != other.mark || size != other.size => mark != other.mark || size < other.size"})
    private static void likeFingerprintsOfOtherLengths() {
        DedupVault x = new DedupVault();
        x.append(250, 0, 1);
        x.save(0);
        x.append(0, 0, 1);
        due.same("wouldStore of a longer one", x.wouldStore(), 2);
        x.save(0);
        due.same("one fingerprint", x.fingerprint(0), x.fingerprint(1));
        due.same("two lengths", x.chunkLength(0) * 10 + x.chunkLength(1), 12);
        x.append(251, 0, 1);
        x.save(0);
        x.cut(1, 2);
        due.same("wouldStore of the shorter one", x.wouldStore(), 0);
        x.save(1);
        due.same("the shorter one is found", x.chunkAt(1, 0, 0), 0);
        due.same("chunks", x.chunks(), 3);
        DedupVault y = new DedupVault();
        y.append(250, 0, 1);
        y.append(0, 0, 1);
        y.save(0);
        y.cut(1, 1);
        due.same("wouldStore of a shorter one", y.wouldStore(), 1);
        y.save(0);
        due.same("two lengths", y.chunkLength(0) * 10 + y.chunkLength(1), 21);
    }

    /** A first byte of 0 or of 251 is one to the fingerprint. */
    @Sentence(in = "Chunks", says = "different chunks can have the same one.",
        broken = "for (int i = 0; i < size; i++) {\n                if (source => for (int i = 1; i < size; i++) {\n"
            + "                if (source")
    private static void likeFingerprintsOfFirstBytes() {
        DedupVault x = new DedupVault();
        x.append(0, 0, 1);
        x.append(5, 0, 6);
        x.save(0);
        x.cut(0, 1);
        x.insert(0, 251);
        due.same("wouldStore", x.wouldStore(), 7);
        x.save(0);
        due.same("chunks", x.chunks(), 2);
        due.same("one fingerprint", x.fingerprint(0), x.fingerprint(1));
        due.same("its first byte", x.byteAt(0, 1, 0), 251);
    }

    private static void references() {
        DedupVault x = new DedupVault();
        Drafts.save(x, 0, 2, 2, 1, 2);
        due.same("references each time", x.references(0), 3);
        due.same("references once", x.references(1), 1);
        Drafts.save(x, 1, 2, 4);
        due.same("references of two versions", x.references(0), 4);
        Drafts.save(x, 1, 2, 4);
        due.same("references of three versions", x.references(0), 5);
        x.forget(0, 0);
        due.same("references of the others", x.references(0), 2);
        due.same("references of garbage", x.references(1), 0);
        x.forget(1, 1);
        x.forget(1, 0);
        due.same("references of garbage", x.references(0), 0);
        due.same("a throw takes none", x.references(2), 0);
    }

    private static void packing() {
        DedupVault x = new DedupVault();
        Drafts.save(x, 0, 2, 1, 3, 5);
        due.same("104 bytes", x.containers(), 1);
        Drafts.save(x, 0, 7);
        due.same("32 more do not fit", x.containers(), 2);
        due.same("openContainer", x.openContainer(), 1);
        Drafts.save(x, 0, 4);
        due.same("a closed one gets nothing more", x.containerOf(5), 1);
        int[] where = {0, 0, 0, 0, 1, 1};
        for (int i = 0; i < where.length; i++) {
            due.same("containerOf " + i, x.containerOf(i), where[i]);
        }
        due.same("chunks", x.chunks(), 6);
    }

    private static void packingToTheBrim() {
        DedupVault x = new DedupVault();
        Drafts.save(x, 0, 1, 3, 5, 7);
        due.same("128 bytes fit", x.containers(), 1);
        due.same("a full one is open still", x.openContainer(), 0);
        x.clearDraft();
        x.append(0, 0, 1);
        x.save(0);
        due.same("129 do not", x.containers(), 2);
        due.same("openContainer", x.openContainer(), 1);
        due.same("containerOf", x.containerOf(4), 1);
        Drafts.save(x, 1, 9, 11, 13);
        x.clearDraft();
        x.append(15, 0, 31);
        x.save(1);
        due.same("1, 96 and 31 are 128", x.containers(), 2);
    }

    private static void cacheOrder() {
        DedupVault x = new DedupVault();
        due.sameText("cache at first", Drafts.cache(x), "-1 -1 -1");
        Drafts.save(x, 0, 1, 3, 5, 7);
        due.sameText("one container", Drafts.cache(x), "0 -1 -1");
        Drafts.save(x, 1, 9, 11, 13, 15);
        due.sameText("two containers", Drafts.cache(x), "1 0 -1");
        Drafts.save(x, 2, 17, 19, 21, 23);
        due.sameText("three containers", Drafts.cache(x), "2 1 0");
        Drafts.save(x, 3, 1);
        due.sameText("the last comes first", Drafts.cache(x), "0 2 1");
        Drafts.save(x, 3, 19);
        due.sameText("the middle comes first", Drafts.cache(x), "2 0 1");
        Drafts.save(x, 3, 21);
        due.sameText("the first stays", Drafts.cache(x), "2 0 1");
        Drafts.save(x, 4, 25);
        due.sameText("the last leaves", Drafts.cache(x), "3 2 0");
        Drafts.save(x, 4, 11);
        due.sameText("by the index", Drafts.cache(x), "1 3 2");
        x.forget(0, 0);
        x.wouldStore();
        x.byteAt(1, 0, 0);
        due.sameText("nothing else uses a container", Drafts.cache(x), "1 3 2");
        Drafts.save(x, 5);
        due.sameText("nor does a version without bytes", Drafts.cache(x), "1 3 2");
    }

    private static void cachedThrows() {
        DedupVault x = new DedupVault();
        int[] bad = {-1, 3, 4, Integer.MIN_VALUE, Integer.MAX_VALUE};
        for (int place : bad) {
            due.thrown("cached " + place, Due.INDEX, () -> x.cached(place));
        }
        Drafts.save(x, 0, 1, 3, 5, 7, 9, 11, 13);
        Drafts.save(x, 0, 15, 17, 19, 21, 23, 25, 27);
        for (int place : bad) {
            due.thrown("cached " + place, Due.INDEX, () -> x.cached(place));
        }
        due.sameText("the latest three", Drafts.cache(x), "3 2 1");
    }

    private static void counts(DedupVault x, String what, int hits, int reads) {
        due.same("cacheHits " + what, x.cacheHits(), hits);
        due.same("indexReads " + what, x.indexReads(), reads);
    }

    private static void hitsAndReads() {
        DedupVault x = new DedupVault();
        Drafts.save(x, 0, 2, 2, 4, 2);
        counts(x, "in one version", 2, 2);
        Drafts.save(x, 0, 2, 6);
        counts(x, "of the next", 3, 3);
        Drafts.save(x, 1, 1, 3, 5);
        counts(x, "of new ones", 3, 6);
        Drafts.save(x, 1, 7, 9, 11, 13);
        Drafts.save(x, 1, 15, 17, 19, 21);
        Drafts.save(x, 1, 23);
        counts(x, "of more", 3, 15);
        due.sameText("cached", Drafts.cache(x), "3 2 1");
        Drafts.save(x, 2, 2);
        counts(x, "of one not cached", 3, 16);
        Drafts.save(x, 2, 2);
        counts(x, "of one cached by that", 4, 16);
        x.forget(2, 0);
        x.forget(2, 1);
        x.wouldStore();
        x.collect();
        counts(x, "are of saves alone", 4, 16);
        Drafts.save(x, 2);
        counts(x, "without bytes", 4, 16);
    }
}
