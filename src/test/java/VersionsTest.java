/** Promises 13 to 23: the kept versions, their bytes and chunks, and how they are kept. */
public final class VersionsTest {
    private static final Due due = new Due("VersionsTest");
    private static final int MIN = Integer.MIN_VALUE;
    private static final int MAX = Integer.MAX_VALUE;

    /** A call that asks something of a version. */
    private interface Asked {
        long of(int file, int version);
    }

    public static void main(String[] args) {
        versionsKeptLatest();
        noSuchVersion();
        bytes();
        bytesThrow();
        chunks();
        chunksThrow();
        costs();
        repeatedEntries();
        fullWhenNotCheaper();
        baseIsTheLatestKept();
        chains();
        chainsAfterForget();
        chainAtSavingCounts();
        due.end();
    }

    private static void versionsKeptLatest() {
        DedupVault x = new DedupVault();
        x.save(0);
        x.save(0);
        x.save(5);
        x.save(0);
        due.same("versions", x.versions(), 4);
        due.same("latest", x.latest(0), 2);
        due.same("latest of 5", x.latest(5), 0);
        due.same("latest of 1", x.latest(1), DedupVault.NONE);
        x.forget(0, 1);
        due.same("latest with one between gone", x.latest(0), 2);
        x.forget(0, 2);
        due.same("latest with the last gone", x.latest(0), 0);
        due.same("versions", x.versions(), 2);
        due.same("isKept", x.isKept(0, 0), true);
        due.same("isKept of a forgotten one", x.isKept(0, 2), false);
        due.same("isKept of one to come", x.isKept(0, 3), false);
        due.same("isKept of another file's", x.isKept(5, 1), false);
        int[] any = {-1, MIN, MAX};
        for (int version : any) {
            due.same("isKept of version " + version, x.isKept(0, version), false);
        }
        int[] noFiles = {-1, 6, MIN, MAX};
        for (int file : noFiles) {
            due.thrown("isKept of file " + file, Due.INDEX, () -> x.isKept(file, 0) ? 1 : 0);
            due.thrown("latest of file " + file, Due.INDEX, () -> x.latest(file));
        }
        x.forget(0, 0);
        due.same("latest of none", x.latest(0), -1);
    }

    private static void noSuchVersion() {
        DedupVault x = new DedupVault();
        Drafts.save(x, 1, 1, 2);
        Drafts.save(x, 1, 1, 2);
        Drafts.save(x, 3, 1, 2);
        x.forget(1, 0);
        int[][] bad = {{-1, 0}, {6, 0}, {MIN, 0}, {MAX, 0}, {1, 0}, {1, 2}, {1, -1}, {1, MIN}, {1, MAX}, {0, 0}, {3, 1}};
        Asked[] calls = {x::length, (f, v) -> x.byteAt(f, v, 0), (f, v) -> x.byteByCopy(f, v, 0), x::chunksOf,
            (f, v) -> x.chunkAt(f, v, 0), x::baseOf, x::chainOf, x::costOf};
        for (int i = 0; i < calls.length; i++) {
            Asked call = calls[i];
            due.same("call " + i + " of a kept one", call.of(1, 1), call.of(3, 0));
            for (int[] a : bad) {
                due.thrown("call " + i + " of " + a[0] + "." + a[1], Due.INDEX, () -> call.of(a[0], a[1]));
            }
        }
    }

    private static void bytes() {
        DedupVault x = new DedupVault();
        x.append(200, 7, 64);
        x.append(3, 0, 64);
        x.append(0, 16, 50);
        x.save(4);
        x.cut(10, 100);
        x.insert(0, 99);
        x.save(4);
        due.same("length", x.length(4, 0), 178);
        due.same("length", x.length(4, 1), 79);
        for (int i = 0; i < 178; i++) {
            int want = i < 64 ? (200 + 7 * i) % 256 : i < 128 ? 3 : 16 * (i - 128) % 256;
            due.same("byteAt " + i, x.byteAt(4, 0, i), want);
            due.same("byteByCopy " + i, x.byteByCopy(4, 0, i), want);
        }
        // an object promises 512 calls, so not each place is looked at
        for (int i = 0; i < 79; i += 3) {
            due.same("byteAt " + i + " is draftAt", x.byteAt(4, 1, i), x.draftAt(i));
            due.same("byteByCopy " + i + " is draftAt", x.byteByCopy(4, 1, i), x.draftAt(i));
        }
    }

    private static void bytesThrow() {
        DedupVault x = new DedupVault();
        x.append(1, 1, 40);
        x.save(0);
        x.clearDraft();
        x.save(0);
        int[] bad = {-1, 40, 41, 240, MIN, MAX};
        for (int place : bad) {
            due.thrown("byteAt " + place, Due.INDEX, () -> x.byteAt(0, 0, place));
            due.thrown("byteByCopy " + place, Due.INDEX, () -> x.byteByCopy(0, 0, place));
        }
        due.same("byteAt the last", x.byteAt(0, 0, 39), 40);
        due.same("byteByCopy the last", x.byteByCopy(0, 0, 39), 40);
        due.same("length of none", x.length(0, 1), 0);
        due.thrown("byteAt of none", Due.INDEX, () -> x.byteAt(0, 1, 0));
        due.thrown("byteByCopy of none", Due.INDEX, () -> x.byteByCopy(0, 1, 0));
    }

    private static void chunks() {
        DedupVault x = new DedupVault();
        Drafts.save(x, 0, 2, 4, 2, 1, 2);
        due.same("chunksOf", x.chunksOf(0, 0), 5);
        due.sameText("chunkAt", Drafts.entries(x, 0, 0), "0 1 0 2 0");
        Drafts.save(x, 1, 6, 1, 4);
        due.sameText("chunkAt", Drafts.entries(x, 1, 0), "3 2 1");
        x.clearDraft();
        x.save(2);
        due.same("chunksOf none", x.chunksOf(2, 0), 0);
        x.append(8, 0, 64);
        x.append(8, 0, 64);
        x.append(8, 0, 64);
        x.append(8, 0, 48);
        x.save(2);
        due.same("chunksOf 240 alike", x.chunksOf(2, 1), 30);
        due.same("chunkAt 29", x.chunkAt(2, 1, 29), 4);
    }

    private static void chunksThrow() {
        DedupVault x = new DedupVault();
        Drafts.save(x, 0, 2, 4, 1);
        int[] bad = {-1, 3, 30, MIN, MAX};
        for (int place : bad) {
            due.thrown("chunkAt " + place, Due.INDEX, () -> x.chunkAt(0, 0, place));
        }
        x.clearDraft();
        x.save(0);
        due.thrown("chunkAt of none", Due.INDEX, () -> x.chunkAt(0, 1, 0));
    }

    private static void kept(DedupVault x, int file, int version, int base, int chain, int cost) {
        String what = " of " + file + "." + version;
        due.same("baseOf" + what, x.baseOf(file, version), base);
        due.same("chainOf" + what, x.chainOf(file, version), chain);
        due.same("costOf" + what, x.costOf(file, version), cost);
    }

    private static void costs() {
        DedupVault x = new DedupVault();
        Drafts.save(x, 0, 2, 4, 6, 8, 10);
        kept(x, 0, 0, -1, 0, 5);
        Drafts.save(x, 0, 2, 4, 6, 8, 10);
        kept(x, 0, 1, 0, 1, 2);
        // 2 alike at the beginnings, 2 at the ends, 1 between, and 2 more
        Drafts.save(x, 0, 2, 4, 12, 8, 10);
        kept(x, 0, 2, 1, 2, 3);
        // one more at the end
        Drafts.save(x, 0, 2, 4, 12, 8, 10, 14);
        kept(x, 0, 3, 2, 3, 3);
        kept(x, 0, 0, -1, 0, 5);
        kept(x, 0, 1, 0, 1, 2);
        // only the ends alike
        DedupVault y = new DedupVault();
        Drafts.save(y, 0, 2, 4, 6, 8, 10);
        Drafts.save(y, 0, 12, 14, 4, 6, 8, 10);
        kept(y, 0, 1, 0, 1, 4);
        // the middle alike is not counted: in full
        Drafts.save(y, 0, 2, 14, 4, 6, 8, 2);
        kept(y, 0, 2, -1, 0, 6);
        // another file's version is no base
        Drafts.save(y, 1, 2, 14, 4, 6, 8, 2);
        kept(y, 1, 0, -1, 0, 6);
        // shorter than its base: nothing is left of it
        Drafts.save(y, 1, 2, 14, 8, 2);
        kept(y, 1, 1, 0, 1, 2);
    }

    @Sentence(in = "Differences", says = "s for how many of those that are left in both are alike at their ends", broken = {
        "while (back < most - front && => while (back < most &&",
        "while (back < most - front && => while (back < entries.size() - front &&"})
    private static void repeatedEntries() {
        DedupVault x = new DedupVault();
        Drafts.save(x, 0, 2, 2, 2, 2, 2);
        // all 3 are alike at the beginnings, so none are left for the ends
        Drafts.save(x, 0, 2, 2, 2);
        kept(x, 0, 1, 0, 1, 2);
        // 3 are alike at the beginnings, none of its base is left: 5 - 3 - 0 + 2 is 4
        Drafts.save(x, 0, 2, 2, 2, 2, 2);
        kept(x, 0, 2, 1, 2, 4);
        Drafts.save(x, 0, 2, 2, 4, 2, 2);
        kept(x, 0, 3, 2, 3, 3);
    }

    private static void fullWhenNotCheaper() {
        DedupVault x = new DedupVault();
        Drafts.save(x, 0, 2, 4, 6);
        // 3 - 1 + 2 is more than 3
        Drafts.save(x, 0, 2, 8, 10);
        kept(x, 0, 1, -1, 0, 3);
        // 3 - 2 + 2 is just 3
        Drafts.save(x, 0, 2, 8, 12);
        kept(x, 0, 2, -1, 0, 3);
        // 3 - 3 + 2 is fewer
        Drafts.save(x, 0, 2, 8, 12);
        kept(x, 0, 3, 2, 1, 2);
        // 2 entries are never kept as a difference, nor is 1, nor none
        Drafts.save(x, 1, 2, 4);
        Drafts.save(x, 1, 2, 4);
        kept(x, 1, 1, -1, 0, 2);
        Drafts.save(x, 2, 2);
        Drafts.save(x, 2, 2);
        kept(x, 2, 1, -1, 0, 1);
        Drafts.save(x, 3);
        Drafts.save(x, 3);
        kept(x, 3, 0, -1, 0, 0);
        kept(x, 3, 1, -1, 0, 0);
    }

    private static void baseIsTheLatestKept() {
        DedupVault x = new DedupVault();
        Drafts.save(x, 0, 2, 4, 6);
        Drafts.save(x, 0, 8, 10, 12);
        x.forget(0, 1);
        Drafts.save(x, 0, 2, 4, 6);
        kept(x, 0, 2, 0, 1, 2);
        Drafts.save(x, 0, 14, 16, 18);
        // the latest kept one is unlike: a version before it is no base
        Drafts.save(x, 0, 2, 4, 6);
        kept(x, 0, 4, -1, 0, 3);
        // what was full when it was saved stays so
        x.forget(0, 3);
        kept(x, 0, 4, -1, 0, 3);
    }

    private static void chains() {
        DedupVault x = new DedupVault();
        Drafts.of(x, 2, 4, 6);
        int[] chains = {0, 1, 2, 3, 0, 1, 2, 3, 0};
        for (int i = 0; i < chains.length; i++) {
            x.save(3);
            kept(x, 3, i, chains[i] == 0 ? -1 : i - 1, chains[i], chains[i] == 0 ? 3 : 2);
        }
    }

    private static void chainsAfterForget() {
        DedupVault x = new DedupVault();
        Drafts.of(x, 2, 4, 6);
        for (int i = 0; i < 4; i++) {
            x.save(0);
        }
        x.save(1);
        x.forget(0, 1);
        kept(x, 0, 0, -1, 0, 3);
        kept(x, 0, 2, -1, 0, 3);
        kept(x, 0, 3, 2, 1, 2);
        kept(x, 1, 0, -1, 0, 3);
        x.forget(0, 0);
        kept(x, 0, 2, -1, 0, 3);
        x.forget(0, 3);
        kept(x, 0, 2, -1, 0, 3);
        DedupVault y = new DedupVault();
        Drafts.of(y, 2, 4, 6);
        for (int i = 0; i < 4; i++) {
            y.save(0);
        }
        y.forget(0, 0);
        kept(y, 0, 1, -1, 0, 3);
        kept(y, 0, 2, 1, 1, 2);
        kept(y, 0, 3, 2, 2, 2);
    }

    private static void chainAtSavingCounts() {
        DedupVault x = new DedupVault();
        Drafts.of(x, 2, 4, 6);
        for (int i = 0; i < 4; i++) {
            x.save(0);
        }
        x.forget(0, 0);
        // version 3 has chain 2 now, so the next has 3
        x.save(0);
        kept(x, 0, 4, 3, 3, 2);
        x.save(0);
        kept(x, 0, 5, -1, 0, 3);
        // a version of the same number in another file is not the base that is forgotten
        DedupVault y = new DedupVault();
        Drafts.of(y, 2, 4, 6);
        y.save(0);
        y.save(1);
        y.save(0);
        y.save(1);
        y.forget(0, 0);
        kept(y, 0, 1, -1, 0, 3);
        kept(y, 1, 1, 0, 1, 2);
    }
}
