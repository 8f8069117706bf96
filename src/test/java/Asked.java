/** What can be asked by the name of a call: the class, or the model of it. */
interface Asked {
    long call(String name, long... arguments);
}
