/** An object whose calls are named, so that the program and Model can be asked alike. */
interface Caller {
    /** The answer, a boolean as 1 or 0. */
    int call(String name, int... a);
}
