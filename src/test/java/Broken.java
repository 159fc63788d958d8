import java.lang.annotation.ElementType;
import java.lang.annotation.Repeatable;
import java.lang.annotation.Retention;
import java.lang.annotation.RetentionPolicy;
import java.lang.annotation.Target;

/** A way to break what a case says: behind 'in', the first 'from' in the text of the class is written as 'to'. */
@Retention(RetentionPolicy.RUNTIME)
@Target(ElementType.METHOD)
@Repeatable(Broken.Ways.class)
@interface Broken {
    String in();

    String from();

    String to();

    /** Java asks for it where a case can be broken in several ways. */
    @Retention(RetentionPolicy.RUNTIME)
    @Target(ElementType.METHOD)
    @interface Ways {
        Broken[] value();
    }
}
