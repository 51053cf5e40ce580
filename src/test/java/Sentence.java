import java.lang.annotation.ElementType;
import java.lang.annotation.Repeatable;
import java.lang.annotation.Retention;
import java.lang.annotation.RetentionPolicy;
import java.lang.annotation.Target;

/**
 * A sentence of the document that names a boundary case, at the test that stands for it. SentencesTest looks for each
 * sentence of the document here; BrokenTest breaks the class as told, and wants the test to see it.
 */
@Retention(RetentionPolicy.RUNTIME)
@Target(ElementType.METHOD)
@Repeatable(Sentence.All.class)
@interface Sentence {
    String INDEX = "{ throw new IndexOutOfBoundsException(); }";
    String ARGUMENT = "{ throw new IllegalArgumentException(); }";
    String STATE = "{ throw new IllegalStateException(); }";

    /** The heading under which it stands, up to a colon. */
    String in();

    /** Its words, or those of them that name the case. */
    String says();

    /**
     * Changes of the class, each of which breaks it. "in save: if (file == 5) { .. }" puts a statement at the beginning
     * of a method of the face; "old => new" changes words that stand once in the source; "mark ... old => new" changes
     * the first such words behind the first mark; two changes made together have " ## " between them.
     */
    String[] broken();

    /** Several sentences at one test. */
    @Retention(RetentionPolicy.RUNTIME)
    @Target(ElementType.METHOD)
    @interface All {
        Sentence[] value();
    }
}
